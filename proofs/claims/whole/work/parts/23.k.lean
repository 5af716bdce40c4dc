theorem mn_st : Cond.static Lib.Math.min.name ∈ ALLW := at2 216 rfl rfl
theorem mn_co : Cond.code Lib.Math.min.name Lib.Math.min.code 2 (some .int) ∈ ALLW := at2 217 rfl rfl
theorem mx_st : Cond.static Lib.Math.max.name ∈ ALLW := at2 219 rfl rfl
theorem mx_co : Cond.code Lib.Math.max.name Lib.Math.max.code 2 (some .int) ∈ ALLW := at2 220 rfl rfl
theorem ma_in : Cond.initialized "java/lang/Math" ∈ ALLW := at1 13 rfl rfl
theorem ml_RX5_301' : Cond.methodLink RX5 301 Lib.Math.min.name ∈ ALLW := at2 215 rfl rfl
theorem ml_RX5_306' : Cond.methodLink RX5 306 Lib.Math.max.name ∈ ALLW := at2 218 rfl rfl
theorem ml_RX0_75' : Cond.methodLink RX0 75 Lib.Math.min.name ∈ ALLW := at2 221 rfl rfl
theorem ml_RX0_99' : Cond.methodLink RX0 99 Lib.Math.max.name ∈ ALLW := at3 114 rfl rfl
theorem ml_RX0_32' : Cond.methodLink RX0 32 arraycopyName ∈ ALLW := at1 227 rfl rfl
theorem ac_st : Cond.static arraycopyName ∈ ALLW := at1 228 rfl rfl
theorem ac_na : Cond.native arraycopyName ∈ ALLW := at1 229 rfl rfl
theorem sy_in : Cond.initialized "java/lang/System" ∈ ALLW := at1 8 rfl rfl
section VXK
variable {p : Program} {l : Launch} {e : Env} {R : Room} {s : State} {m : MethodId} {args : Array Value} {below : List Frame} {meth : Method} {c : Code} {Q : State → Prop} {ad : Nat → Nat} {D : va_G} {tys : List (ClassId × FieldType)} {A : Nat → Prop} {cc : ByteArray} {nL : Nat} {own : String} {pre blk blk' post : va_W} {pc : Nat} {lv : List (Nat × Value)} {rest : List Value}
theorem lv_size {ls : Array Slot} (h : lv_has ls nL lv) : ls.size = nL := h.1
/-- the world is the same list, cut elsewhere -/
theorem r_foc {pre' cb post' : va_W} (h : pre ++ (blk ++ post) = pre' ++ (cb ++ post')) (k : VX p l e R s m args below meth c Q D A nL pre' cb post' pc lv rest) : VX p l e R s m args below meth c Q D A nL pre blk post pc lv rest := fun H locs ls hP hD hS hl => by
  rw [h] at hP hD
  exact k H locs ls hP hD hS hl
theorem r_mmin (C : Cx p s m args c cc nL own ad D tys A) {index : Nat} {x y : Int32} (hl : Cond.methodLink own index Lib.Math.min.name ∈ ALLW) (hf : 1 ≤ R.frames) (hlo : 21 ≤ R.locals) (hro : (rest.map fun v => v.category).sum ≤ 8) (hdg : decode cc pc = .ok (.invokestatic index, 3)) (k : VX p l e R s m args below meth c Q D A nL pre blk post (pc + 3) lv (.int (if y < x then y else x) :: rest)) : VX p l e R s m args below meth c Q D A nL pre blk post pc lv (.int y :: .int x :: rest) := fun H locs ls hP hD hS hl2 =>
  va_mmin C.1 C.2.1 (by rw [lv_size hl2]; exact C.2.2.1) C.2.2.2.1 (C.2.2.2.2.1 _ hl) (C.2.2.2.2.1 _ mn_st) (C.2.2.2.2.1 _ ma_in) (C.2.2.2.2.1 _ mn_co) hf (by omega) (Nat.zero_le _) (Nat.zero_le _) hdg (k H locs ls hP hD hS hl2)
theorem r_mmax (C : Cx p s m args c cc nL own ad D tys A) {index : Nat} {x y : Int32} (hl : Cond.methodLink own index Lib.Math.max.name ∈ ALLW) (hf : 1 ≤ R.frames) (hlo : 21 ≤ R.locals) (hro : (rest.map fun v => v.category).sum ≤ 8) (hdg : decode cc pc = .ok (.invokestatic index, 3)) (k : VX p l e R s m args below meth c Q D A nL pre blk post (pc + 3) lv (.int (if x < y then y else x) :: rest)) : VX p l e R s m args below meth c Q D A nL pre blk post pc lv (.int y :: .int x :: rest) := fun H locs ls hP hD hS hl2 =>
  va_mmax C.1 C.2.1 (by rw [lv_size hl2]; exact C.2.2.1) C.2.2.2.1 (C.2.2.2.2.1 _ hl) (C.2.2.2.2.1 _ mx_st) (C.2.2.2.2.1 _ ma_in) (C.2.2.2.2.1 _ mx_co) hf (by omega) (Nat.zero_le _) (Nat.zero_le _) hdg (k H locs ls hP hD hS hl2)
theorem r_aald (C : Cx p s m args c cc nL own ad D tys A) (q0 t0 : Nat) {cA : ClassId} {ty : FieldType} {n a : Nat} {f : Nat → Option Nat} (ha : blk[q0]? = some (a, .inl (cA, n, .inr (.inr (.inr (.inr f)))))) (ht : tys[t0]? = some (cA, ty)) (hty : ty.isReference = true) {i : Int32} (j : Nat) (hi : i = nI j) (hj : j < n) (hn : n < 2 ^ 31) {v : Value} (hv : va_rf (f j) = v) (hdg : decode cc pc = .ok (.aaload, 1)) (kk : VX p l e R s m args below meth c Q D A nL pre blk post (pc + 1) lv (v :: rest)) : VX p l e R s m args below meth c Q D A nL pre blk post pc lv (.int i :: .ref a :: rest) := fun H locs ls hP hD hS hl => by
  subst hi
  have hin : vp_in (nI j) n := vp_in_nI hj hn
  have hlt : (nI j).toNatClampNeg < n := by rw [nI_clamp (Nat.lt_trans hj hn)]; exact hj
  refine W.aald (v := va_rf (f (nI j).toNatClampNeg)) (ty := ty) C.1 C.2.1 (hP (pre.length + q0) _ (bk_at ha)) ((C.2.2.2.2.2.1.2 t0 _ ht).1 n (fun j => va_rf (f j))) hty (fun q => by cases q) (by show ¬ (nI j < 0 ∨ (arrV _ _ _).slots.size ≤ _); rw [arrV_size]; exact hin) (by show (arrV _ _ _).slots[_]? = _; rw [arrV_read _ _ hlt]) rfl rfl hdg ?_
  rw [nI_clamp (Nat.lt_trans hj hn), hv]
  exact kk H locs ls hP hD hS hl
theorem r_copyi (C : Cx p s m args c cc nL own ad D tys A) {index : Nat} (hl : Cond.methodLink own index arraycopyName ∈ ALLW) (q0 q1 t0 : Nat) {a0 a1 : Nat} {cA : ClassId} {n0 n1 : Nat} {f g : Nat → Int32} (ha0 : blk[q0]? = some (a0, .inl (cA, n0, .inl f))) (ha1 : blk[q1]? = some (a1, .inl (cA, n1, .inl g))) (ht0 : tys[t0]? = some (cA, .int)) (k : Nat) (h0 : k ≤ n0) (h1 : k ≤ n1) (hk : k < 2 ^ 31) (hf : 1 ≤ R.frames) (hlo : 8 + (nativeFrameWords "java/lang/System" "arraycopy" 5 + 11) ≤ R.locals) (hro : (rest.map fun v => v.category).sum ≤ 8) (hdg : decode cc pc = .ok (.invokestatic index, 3)) (hb2 : blk.set q1 (a1, .inl (cA, n1, .inl (va_cpy f g 0 0 k))) = blk') (kk : VX p l e R s m args below meth c Q D A nL pre blk' post (pc + 3) lv rest) : VX p l e R s m args below meth c Q D A nL pre blk post pc lv (.int (nI k) :: .int 0 :: .ref a1 :: .int 0 :: .ref a0 :: rest) := fun H locs ls hP hD hS hl2 => by
  have hlt : q1 < blk.length := (List.getElem?_eq_some_iff.mp ha1).1
  have hc : (nI k).toNatClampNeg = k := nI_clamp hk
  refine va_copyi C.1 C.2.1 (by rw [lv_size hl2]; exact C.2.2.1) C.2.2.2.1 (C.2.2.2.2.1 _ hl) (C.2.2.2.2.1 _ ac_na) (C.2.2.2.2.1 _ ac_st) (C.2.2.2.2.1 _ sy_in) C.2.2.2.2.2.1 hP hD hS (pre.length + q0) (pre.length + q1) t0 t0 (bk_at ha0) (bk_at ha1) ht0 ht0 rfl (by decide) (by decide) ?_ ?_ ?_ (fun _ _ => rfl) hf (by omega) hdg (fun H1 locs1 hP1 hD1 hS1 => ?_)
  · exact fun q => absurd q (by rw [show (0 : Int32) = nI 0 from rfl, nI_ltI hk (by decide)]; omega)
  · rw [hc]; exact (Nat.zero_add k).symm ▸ h0
  · rw [hc]; exact (Nat.zero_add k).symm ▸ h1
  · rw [hc] at hP1 hD1
    rw [show (0 : Int32).toNatClampNeg = 0 from rfl, bk_set hlt, hb2] at hP1 hD1
    exact kk H1 locs1 ls hP1 hD1 hS1 hl2
theorem r_gets (C : Cx p s m args c cc nL own ad D tys A) {index a : Nat} {nm : String} (hl : Cond.fieldLink own index "WoolMarket" nm "[I" ∈ ALLW) (hz : va_Z "WoolMarket" nm "[I" (.ref a) A s s.heap) (hdg : decode cc pc = .ok (.getstatic index, 3)) (k : VX p l e R s m args below meth c Q D A nL pre blk post (pc + 3) lv (.ref a :: rest)) : VX p l e R s m args below meth c Q D A nL pre blk post pc lv rest := fun H locs ls hP hD hS hl2 =>
  va_gets C.1 C.2.1 hz hS C.2.2.2.1 (C.2.2.2.2.1 _ hl) (fun _ h => h) hdg (k H locs ls hP hD hS hl2)
theorem r_getsN (C : Cx p s m args c cc nL own ad D tys A) {index a : Nat} {nm host : String} (hl : va_Nw (.fieldLinkNest own index "WoolMarket" nm "[I" host) s) (hz : va_Z "WoolMarket" nm "[I" (.ref a) A s s.heap) (hdg : decode cc pc = .ok (.getstatic index, 3)) (k : VX p l e R s m args below meth c Q D A nL pre blk post (pc + 3) lv (.ref a :: rest)) : VX p l e R s m args below meth c Q D A nL pre blk post pc lv rest := fun H locs ls hP hD hS hl2 =>
  va_getsN C.1 C.2.1 hz hS C.2.2.2.1 (va_Nw.use rfl hl) (fun _ h => h) hdg (k H locs ls hP hD hS hl2)
theorem r_ti (C : Cx p s m args c cc nL own ad D tys A) {t N : Nat} {f : Nat → Value} (hT : va_T .int t N f A s s.heap) {i : Int32} (j : Nat) (hi : i = nI j) (hj : j < N) (hn : N < 2 ^ 31) {v : Int32} (hv : f j = .int v) (hdg : decode cc pc = .ok (.iaload, 1)) (k : VX p l e R s m args below meth c Q D A nL pre blk post (pc + 1) lv (.int v :: rest)) : VX p l e R s m args below meth c Q D A nL pre blk post pc lv (.int i :: .ref t :: rest) := fun H locs ls hP hD hS hl2 => by
  subst hi
  exact va_ti C.1 C.2.1 hT hS (vp_in_nI hj hn) (by rw [nI_clamp (Nat.lt_trans hj hn)]; exact hv) hdg (k H locs ls hP hD hS hl2)
theorem C_nw (C : Cx p s m args c cc nL own ad D tys A) : NW s := C.2.2.2.2.2.2.1.2.2.2.2.2.2.2
theorem C_t0 (C : Cx p s m args c cc nL own ad D tys A) : SFt ad A s s.heap 0 "LAW_AT_FIRST" tbl0 := C.2.2.2.2.2.2.1.1
theorem C_t1 (C : Cx p s m args c cc nL own ad D tys A) : SFt ad A s s.heap 1 "LAW_MOST" tbl1 := C.2.2.2.2.2.2.1.2.1
theorem C_t2 (C : Cx p s m args c cc nL own ad D tys A) : SFt ad A s s.heap 2 "TRAIT_MOST" tbl2 := C.2.2.2.2.2.2.1.2.2.1
end VXK
