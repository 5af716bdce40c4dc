/-! the world of one Market: its row of 48 in the reference's places -/
def lawR (m : Nat → Int32) : Nat → Int32 := fun j => if j < 4 then m (4 + j) else 0
def hasR (m : Nat → Int32) (k : Nat) : Nat → Int32 := fun j => m (8 + 5 * j + k)
def wK (cs : Nat → ClassId) (g : Nat → Nat) (m : Nat → Int32) : va_W := [(g 0, .inr (0, [.ref (g 1), .ref (g 2), .int (m 0), .int (m 1), .int (m 3), .int (m 2)])), (g 1, .inl (cs 0, 4, .inl (lawR m))), (g 2, .inl (cs 3, 5, .inr (.inr (.inr (.inr (fun j => some (g (3 + j)))))))), (g 3, .inl (cs 0, 8, .inl (hasR m 0))), (g 4, .inl (cs 0, 8, .inl (hasR m 1))), (g 5, .inl (cs 0, 8, .inl (hasR m 2))), (g 6, .inl (cs 0, 8, .inl (hasR m 3))), (g 7, .inl (cs 0, 8, .inl (hasR m 4)))]
theorem lawR_lt {m : Nat → Int32} {j : Nat} (h : j < 4) : lawR m j = m (4 + j) := if_pos h
theorem lawR_u {m : Nat → Int32} {a : Nat} {v : Int32} (h : a < 4 ∨ 8 ≤ a) : lawR (upd m a v) = lawR m := by
  funext j; unfold lawR; split
  · exact upd_ne (by omega)
  · rfl
theorem lawR_s {m : Nat → Int32} {j : Nat} {v : Int32} (h : j < 4) : upd (lawR m) j v = lawR (upd m (4 + j) v) := by
  funext i; by_cases q : i = j
  · subst q; rw [upd_self, lawR_lt h, upd_self]
  · rw [upd_ne q]; unfold lawR; split
    · exact (upd_ne (by omega)).symm
    · rfl
theorem hasR_u {m : Nat → Int32} {k a : Nat} {v : Int32} (h : ∀ j, 8 + 5 * j + k ≠ a) : hasR (upd m a v) k = hasR m k := by
  funext j; exact upd_ne (h j)
theorem hasR_s {m : Nat → Int32} {k o : Nat} {v : Int32} : upd (hasR m k) o v = hasR (upd m (8 + 5 * o + k) v) k := by
  funext i; by_cases q : i = o
  · subst q; rw [upd_self]; exact upd_self.symm
  · rw [upd_ne q]; exact (upd_ne (show 8 + 5 * i + k ≠ 8 + 5 * o + k by omega)).symm
/-- a number of the object is changed -/
theorem wK_num {cs : Nat → ClassId} {g : Nat → Nat} {m : Nat → Int32} {a : Nat} {v : Int32} (h : a < 4) : (wK cs g m).set 0 (g 0, .inr (0, [.ref (g 1), .ref (g 2), .int (upd m a v 0), .int (upd m a v 1), .int (upd m a v 3), .int (upd m a v 2)])) = wK cs g (upd m a v) := by
  unfold wK
  rw [lawR_u (.inl h), hasR_u (fun j => by omega), hasR_u (fun j => by omega), hasR_u (fun j => by omega), hasR_u (fun j => by omega), hasR_u (fun j => by omega)]
  rfl
theorem wK_law {cs : Nat → ClassId} {g : Nat → Nat} {m : Nat → Int32} {j : Nat} {v : Int32} (h : j < 4) : (wK cs g m).set 1 (g 1, .inl (cs 0, 4, .inl (upd (lawR m) j v))) = wK cs g (upd m (4 + j) v) := by
  unfold wK
  rw [lawR_s h, hasR_u (fun j => by omega), hasR_u (fun j => by omega), hasR_u (fun j => by omega), hasR_u (fun j => by omega), hasR_u (fun j => by omega), upd_ne (by omega), upd_ne (by omega), upd_ne (by omega), upd_ne (by omega)]
  rfl
theorem wK_at {cs : Nat → ClassId} {g : Nat → Nat} {m : Nat → Int32} {k : Nat} (h : k < 5) : (wK cs g m)[3 + k]? = some (g (3 + k), .inl (cs 0, 8, .inl (hasR m k))) := by
  have hc : k = 0 ∨ k = 1 ∨ k = 2 ∨ k = 3 ∨ k = 4 := by omega
  rcases hc with rfl | rfl | rfl | rfl | rfl <;> rfl
theorem wK_has {cs : Nat → ClassId} {g : Nat → Nat} {m : Nat → Int32} {k o : Nat} {v : Int32} (h : k < 5) : (wK cs g m).set (3 + k) (g (3 + k), .inl (cs 0, 8, .inl (upd (hasR m k) o v))) = wK cs g (upd m (8 + 5 * o + k) v) := by
  unfold wK
  rw [hasR_s, lawR_u (.inr (by omega)), upd_ne (by omega), upd_ne (by omega), upd_ne (by omega), upd_ne (by omega)]
  have hc : k = 0 ∨ k = 1 ∨ k = 2 ∨ k = 3 ∨ k = 4 := by omega
  rcases hc with rfl | rfl | rfl | rfl | rfl
  · rw [hasR_u (k := 1) (fun j => by omega), hasR_u (k := 2) (fun j => by omega), hasR_u (k := 3) (fun j => by omega), hasR_u (k := 4) (fun j => by omega)]; rfl
  · rw [hasR_u (k := 0) (fun j => by omega), hasR_u (k := 2) (fun j => by omega), hasR_u (k := 3) (fun j => by omega), hasR_u (k := 4) (fun j => by omega)]; rfl
  · rw [hasR_u (k := 0) (fun j => by omega), hasR_u (k := 1) (fun j => by omega), hasR_u (k := 3) (fun j => by omega), hasR_u (k := 4) (fun j => by omega)]; rfl
  · rw [hasR_u (k := 0) (fun j => by omega), hasR_u (k := 1) (fun j => by omega), hasR_u (k := 2) (fun j => by omega), hasR_u (k := 4) (fun j => by omega)]; rfl
  · rw [hasR_u (k := 0) (fun j => by omega), hasR_u (k := 1) (fun j => by omega), hasR_u (k := 2) (fun j => by omega), hasR_u (k := 3) (fun j => by omega)]; rfl
theorem wK_n0 {cs : Nat → ClassId} {g : Nat → Nat} {m : Nat → Int32} {v : Int32} : (wK cs g m).set 0 (g 0, .inr (0, [.ref (g 1), .ref (g 2), .int v, .int (m 1), .int (m 3), .int (m 2)])) = wK cs g (upd m 0 v) := by
  rw [← wK_num (by decide), upd_self, upd_ne (by decide), upd_ne (by decide), upd_ne (by decide)]
theorem wK_n1 {cs : Nat → ClassId} {g : Nat → Nat} {m : Nat → Int32} {v : Int32} : (wK cs g m).set 0 (g 0, .inr (0, [.ref (g 1), .ref (g 2), .int (m 0), .int v, .int (m 3), .int (m 2)])) = wK cs g (upd m 1 v) := by
  rw [← wK_num (by decide), upd_self, upd_ne (by decide), upd_ne (by decide), upd_ne (by decide)]
theorem wK_n3 {cs : Nat → ClassId} {g : Nat → Nat} {m : Nat → Int32} {v : Int32} : (wK cs g m).set 0 (g 0, .inr (0, [.ref (g 1), .ref (g 2), .int (m 0), .int (m 1), .int v, .int (m 2)])) = wK cs g (upd m 3 v) := by
  rw [← wK_num (by decide), upd_self, upd_ne (by decide), upd_ne (by decide), upd_ne (by decide)]
theorem wK_n2 {cs : Nat → ClassId} {g : Nat → Nat} {m : Nat → Int32} {v : Int32} : (wK cs g m).set 0 (g 0, .inr (0, [.ref (g 1), .ref (g 2), .int (m 0), .int (m 1), .int (m 3), .int v])) = wK cs g (upd m 2 v) := by
  rw [← wK_num (by decide), upd_self, upd_ne (by decide), upd_ne (by decide), upd_ne (by decide)]
section VKW
variable {p : Program} {l : Launch} {e : Env} {R : Room} {s : State} {m_ : MethodId} {args : Array Value} {below : List Frame} {meth : Method} {c : Code} {Q : State → Prop} {ad : Nat → Nat} {D : va_G} {cs : Nat → ClassId} {A : Nat → Prop} {cc : ByteArray} {nL : Nat} {own : String} {pre post : va_W} {pc : Nat} {lv : List (Nat × Value)} {rest : List Value} {g : Nat → Nat} {m : Nat → Int32} {index : Nat}
theorem kg_laws (C : Cx p s m_ args c cc nL own ad D (tysW cs) A) (hl : Cond.fieldLink own index "WoolMarket$Market" "laws" "[I" ∈ ALLW) (hdg : decode cc pc = .ok (.getfield index, 3)) (kk : VX p l e R s m_ args below meth c Q D A nL pre (wK cs g m) post (pc + 3) lv (.ref (g 1) :: rest)) : VX p l e R s m_ args below meth c Q D A nL pre (wK cs g m) post pc lv (.ref (g 0) :: rest) := r_get C (Cn := RX0) (T := TX0) (N := 6) (ci := 0) iw_0 0 rfl rfl 0 (by decide) hl rfl rfl hdg kk
theorem kg_has (C : Cx p s m_ args c cc nL own ad D (tysW cs) A) (hl : Cond.fieldLink own index "WoolMarket$Market" "has" "[[I" ∈ ALLW) (hdg : decode cc pc = .ok (.getfield index, 3)) (kk : VX p l e R s m_ args below meth c Q D A nL pre (wK cs g m) post (pc + 3) lv (.ref (g 2) :: rest)) : VX p l e R s m_ args below meth c Q D A nL pre (wK cs g m) post pc lv (.ref (g 0) :: rest) := r_get C (Cn := RX0) (T := TX0) (N := 6) (ci := 0) iw_0 0 rfl rfl 1 (by decide) hl rfl rfl hdg kk
theorem kg_count (C : Cx p s m_ args c cc nL own ad D (tysW cs) A) (hl : Cond.fieldLink own index "WoolMarket$Market" "count" "I" ∈ ALLW) (hdg : decode cc pc = .ok (.getfield index, 3)) (v : Int32) (hv : m 0 = v) (kk : VX p l e R s m_ args below meth c Q D A nL pre (wK cs g m) post (pc + 3) lv (.int v :: rest)) : VX p l e R s m_ args below meth c Q D A nL pre (wK cs g m) post pc lv (.ref (g 0) :: rest) := r_get C (Cn := RX0) (T := TX0) (N := 6) (ci := 0) iw_0 0 rfl rfl 2 (by decide) hl rfl rfl hdg (hv ▸ kk)
theorem kp_count (C : Cx p s m_ args c cc nL own ad D (tysW cs) A) {v : Int32} (hl : Cond.fieldLink own index "WoolMarket$Market" "count" "I" ∈ ALLW) (hdg : decode cc pc = .ok (.putfield index, 3)) (kk : VX p l e R s m_ args below meth c Q D A nL pre (wK cs g (upd m 0 v)) post (pc + 3) lv (rest)) : VX p l e R s m_ args below meth c Q D A nL pre (wK cs g m) post pc lv (.int v :: .ref (g 0) :: rest) := r_put C (blk' := wK cs g (upd m 0 v)) (Cn := RX0) (T := TX0) (N := 6) (ci := 0) iw_0 tyX0 tyX0_ok nmX0 0 rfl rfl 2 (by decide) hl rfl rfl rfl rfl rfl (Nat.le_of_ble_eq_true rfl) hdg wK_n0 kk
theorem kg_dayNumber (C : Cx p s m_ args c cc nL own ad D (tysW cs) A) (hl : Cond.fieldLink own index "WoolMarket$Market" "dayNumber" "I" ∈ ALLW) (hdg : decode cc pc = .ok (.getfield index, 3)) (v : Int32) (hv : m 1 = v) (kk : VX p l e R s m_ args below meth c Q D A nL pre (wK cs g m) post (pc + 3) lv (.int v :: rest)) : VX p l e R s m_ args below meth c Q D A nL pre (wK cs g m) post pc lv (.ref (g 0) :: rest) := r_get C (Cn := RX0) (T := TX0) (N := 6) (ci := 0) iw_0 0 rfl rfl 3 (by decide) hl rfl rfl hdg (hv ▸ kk)
theorem kp_dayNumber (C : Cx p s m_ args c cc nL own ad D (tysW cs) A) {v : Int32} (hl : Cond.fieldLink own index "WoolMarket$Market" "dayNumber" "I" ∈ ALLW) (hdg : decode cc pc = .ok (.putfield index, 3)) (kk : VX p l e R s m_ args below meth c Q D A nL pre (wK cs g (upd m 1 v)) post (pc + 3) lv (rest)) : VX p l e R s m_ args below meth c Q D A nL pre (wK cs g m) post pc lv (.int v :: .ref (g 0) :: rest) := r_put C (blk' := wK cs g (upd m 1 v)) (Cn := RX0) (T := TX0) (N := 6) (ci := 0) iw_0 tyX0 tyX0_ok nmX0 0 rfl rfl 3 (by decide) hl rfl rfl rfl rfl rfl (Nat.le_of_ble_eq_true rfl) hdg wK_n1 kk
theorem kg_chest (C : Cx p s m_ args c cc nL own ad D (tysW cs) A) (hl : Cond.fieldLink own index "WoolMarket$Market" "chest" "I" ∈ ALLW) (hdg : decode cc pc = .ok (.getfield index, 3)) (v : Int32) (hv : m 3 = v) (kk : VX p l e R s m_ args below meth c Q D A nL pre (wK cs g m) post (pc + 3) lv (.int v :: rest)) : VX p l e R s m_ args below meth c Q D A nL pre (wK cs g m) post pc lv (.ref (g 0) :: rest) := r_get C (Cn := RX0) (T := TX0) (N := 6) (ci := 0) iw_0 0 rfl rfl 4 (by decide) hl rfl rfl hdg (hv ▸ kk)
theorem kp_chest (C : Cx p s m_ args c cc nL own ad D (tysW cs) A) {v : Int32} (hl : Cond.fieldLink own index "WoolMarket$Market" "chest" "I" ∈ ALLW) (hdg : decode cc pc = .ok (.putfield index, 3)) (kk : VX p l e R s m_ args below meth c Q D A nL pre (wK cs g (upd m 3 v)) post (pc + 3) lv (rest)) : VX p l e R s m_ args below meth c Q D A nL pre (wK cs g m) post pc lv (.int v :: .ref (g 0) :: rest) := r_put C (blk' := wK cs g (upd m 3 v)) (Cn := RX0) (T := TX0) (N := 6) (ci := 0) iw_0 tyX0 tyX0_ok nmX0 0 rfl rfl 4 (by decide) hl rfl rfl rfl rfl rfl (Nat.le_of_ble_eq_true rfl) hdg wK_n3 kk
theorem kg_z (C : Cx p s m_ args c cc nL own ad D (tysW cs) A) (hl : Cond.fieldLink own index "WoolMarket$Market" "z" "I" ∈ ALLW) (hdg : decode cc pc = .ok (.getfield index, 3)) (v : Int32) (hv : m 2 = v) (kk : VX p l e R s m_ args below meth c Q D A nL pre (wK cs g m) post (pc + 3) lv (.int v :: rest)) : VX p l e R s m_ args below meth c Q D A nL pre (wK cs g m) post pc lv (.ref (g 0) :: rest) := r_get C (Cn := RX0) (T := TX0) (N := 6) (ci := 0) iw_0 0 rfl rfl 5 (by decide) hl rfl rfl hdg (hv ▸ kk)
theorem kp_z (C : Cx p s m_ args c cc nL own ad D (tysW cs) A) {v : Int32} (hl : Cond.fieldLink own index "WoolMarket$Market" "z" "I" ∈ ALLW) (hdg : decode cc pc = .ok (.putfield index, 3)) (kk : VX p l e R s m_ args below meth c Q D A nL pre (wK cs g (upd m 2 v)) post (pc + 3) lv (rest)) : VX p l e R s m_ args below meth c Q D A nL pre (wK cs g m) post pc lv (.int v :: .ref (g 0) :: rest) := r_put C (blk' := wK cs g (upd m 2 v)) (Cn := RX0) (T := TX0) (N := 6) (ci := 0) iw_0 tyX0 tyX0_ok nmX0 0 rfl rfl 5 (by decide) hl rfl rfl rfl rfl rfl (Nat.le_of_ble_eq_true rfl) hdg wK_n2 kk
theorem kl_laws (C : Cx p s m_ args c cc nL own ad D (tysW cs) A) {i : Int32} (j : Nat) (hi : i = nI j) (hj : j < 4) (hdg : decode cc pc = .ok (.iaload, 1)) (v : Int32) (hv : m (4 + j) = v) (kk : VX p l e R s m_ args below meth c Q D A nL pre (wK cs g m) post (pc + 1) lv (.int v :: rest)) : VX p l e R s m_ args below meth c Q D A nL pre (wK cs g m) post pc lv (.int i :: .ref (g 1) :: rest) := r_iald C 1 0 (cA := cs 0) (n := 4) (f := lawR m) rfl rfl j hi hj (by decide) hdg (((lawR_lt hj).trans hv).symm ▸ kk)
theorem ks_laws (C : Cx p s m_ args c cc nL own ad D (tysW cs) A) {i x : Int32} (j : Nat) (hi : i = nI j) (hj : j < 4) (hdg : decode cc pc = .ok (.iastore, 1)) (b : Nat) (hb : 4 + j = b) (kk : VX p l e R s m_ args below meth c Q D A nL pre (wK cs g (upd m b x)) post (pc + 1) lv (rest)) : VX p l e R s m_ args below meth c Q D A nL pre (wK cs g m) post pc lv (.int x :: .int i :: .ref (g 1) :: rest) := by
  subst hb
  exact r_iast C 1 0 (cA := cs 0) (n := 4) (f := lawR m) rfl rfl j hi hj (by decide) hdg (wK_law hj) kk
theorem ka_has (C : Cx p s m_ args c cc nL own ad D (tysW cs) A) {i : Int32} (j : Nat) (hi : i = nI j) (hj : j < 5) (hdg : decode cc pc = .ok (.aaload, 1)) (kk : VX p l e R s m_ args below meth c Q D A nL pre (wK cs g m) post (pc + 1) lv (.ref (g (3 + j)) :: rest)) : VX p l e R s m_ args below meth c Q D A nL pre (wK cs g m) post pc lv (.int i :: .ref (g 2) :: rest) := r_aald C 2 3 (cA := cs 3) (ty := .array .int) (n := 5) (f := fun j => some (g (3 + j))) rfl rfl rfl j hi hj (by decide) rfl hdg kk
theorem kl_row (C : Cx p s m_ args c cc nL own ad D (tysW cs) A) {i : Int32} (k : Nat) (hk : k < 5) (j : Nat) (hi : i = nI j) (hj : j < 8) (hdg : decode cc pc = .ok (.iaload, 1)) (v : Int32) (hv : m (8 + 5 * j + k) = v) (kk : VX p l e R s m_ args below meth c Q D A nL pre (wK cs g m) post (pc + 1) lv (.int v :: rest)) : VX p l e R s m_ args below meth c Q D A nL pre (wK cs g m) post pc lv (.int i :: .ref (g (3 + k)) :: rest) := r_iald C (3 + k) 0 (cA := cs 0) (n := 8) (f := hasR m k) (wK_at hk) rfl j hi hj (by decide) hdg (by subst hv; exact kk)
theorem ks_row (C : Cx p s m_ args c cc nL own ad D (tysW cs) A) {i x : Int32} (k : Nat) (hk : k < 5) (j : Nat) (hi : i = nI j) (hj : j < 8) (hdg : decode cc pc = .ok (.iastore, 1)) (b : Nat) (hb : 8 + 5 * j + k = b) (kk : VX p l e R s m_ args below meth c Q D A nL pre (wK cs g (upd m b x)) post (pc + 1) lv (rest)) : VX p l e R s m_ args below meth c Q D A nL pre (wK cs g m) post pc lv (.int x :: .int i :: .ref (g (3 + k)) :: rest) := by
  subst hb
  exact r_iast C (3 + k) 0 (cA := cs 0) (n := 8) (f := hasR m k) (wK_at hk) rfl j hi hj (by decide) hdg (wK_has hk) kk
end VKW
