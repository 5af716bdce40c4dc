def mnI (a b : Int32) : Int32 := if a < b then a else b
def mxI (a b : Int32) : Int32 := if b < a then a else b
theorem dX6_isIn_0 : decode cX6_isIn 0 = .ok (.lload_n 0, 1) := by decide +kernel
theorem dX6_isIn_1 : decode cX6_isIn 1 = .ok (.lload_n 2, 1) := by decide +kernel
theorem dX6_isIn_2 : decode cX6_isIn 2 = .ok (.lcmp, 1) := by decide +kernel
theorem dX6_isIn_3 : decode cX6_isIn 3 = .ok (.ifCond .lt 14, 3) := by decide +kernel
theorem dX6_isIn_6 : decode cX6_isIn 6 = .ok (.lload_n 0, 1) := by decide +kernel
theorem dX6_isIn_7 : decode cX6_isIn 7 = .ok (.lload 4, 2) := by decide +kernel
theorem dX6_isIn_9 : decode cX6_isIn 9 = .ok (.lcmp, 1) := by decide +kernel
theorem dX6_isIn_10 : decode cX6_isIn 10 = .ok (.ifCond .gt 7, 3) := by decide +kernel
theorem dX6_isIn_13 : decode cX6_isIn 13 = .ok (.iconst 1, 1) := by decide +kernel
theorem dX6_isIn_14 : decode cX6_isIn 14 = .ok (.goto 4, 3) := by decide +kernel
theorem dX6_isIn_17 : decode cX6_isIn 17 = .ok (.iconst 0, 1) := by decide +kernel
theorem dX6_isIn_18 : decode cX6_isIn 18 = .ok (.ireturn, 1) := by decide +kernel
set_option maxHeartbeats 400000 in
set_option maxRecDepth 20000 in
theorem t_X6_isIn (l : Launch) (ad : Nat → Nat) (D : va_G) (tys : List (ClassId × FieldType)) (bk : va_W) (pre post : va_W) (x lo hi : Int32)  : CTi l yX6_isIn cX6_isIn 6 .boolean ({ frames := 0, cells := 0, slots := 0, locals := 0 }) ad D tys (pre ++ (bk ++ post)) [.long x.toInt64, .long lo.toInt64, .long hi.toInt64] (bI (¬ x < lo ∧ ¬ hi < x)) (pre ++ (bk ++ post)) := by
  refine CTi.of (lv0 := [(0, .long x.toInt64), (2, .long lo.toInt64), (4, .long hi.toInt64)]) (by decide) rfl (Nat.le_of_ble_eq_true rfl) (fun p e s m args below meth c A C hr hlk => ?_)
  have C : Cx p s m args c cX6_isIn 6 RX6 ad D tys A := C
  refine r_lload_n (pc := 0) C 0 dX6_isIn_0 rfl rfl ?_
  refine r_lload_n (pc := 1) C 1 dX6_isIn_1 rfl rfl ?_
  refine r_lcmp (pc := 2) C dX6_isIn_2 ?_
  refine r_if_lt (pc := 3) C 17 dX6_isIn_3 (by decide) (fun c_1 => ?_) (fun c_1 => ?_)
  · skip
    have c_1 := (lg_cmp_lt _ _).mp c_1
    rw [i64_lt] at c_1
    refine r_iconst (pc := 17) C 0 dX6_isIn_17 (by decide) ?_
    exact r_iret (pc := 18) C hr hlk dX6_isIn_18 rfl (by simp_all [bI]) rfl
  · skip
    have c_1 := mt (lg_cmp_lt _ _).mpr c_1
    rw [i64_lt] at c_1
    refine r_lload_n (pc := 6) C 0 dX6_isIn_6 rfl rfl ?_
    refine r_lload (pc := 7) C 2 dX6_isIn_7 rfl ?_
    refine r_lcmp (pc := 9) C dX6_isIn_9 ?_
    refine r_if_gt (pc := 10) C 17 dX6_isIn_10 (by decide) (fun c_2 => ?_) (fun c_2 => ?_)
    · skip
      have c_2 := (lg_cmp_gt _ _).mp c_2
      rw [i64_lt] at c_2
      refine r_iconst (pc := 17) C 0 dX6_isIn_17 (by decide) ?_
      exact r_iret (pc := 18) C hr hlk dX6_isIn_18 rfl (by simp_all [bI]) rfl
    · skip
      have c_2 := mt (lg_cmp_gt _ _).mpr c_2
      rw [i64_lt] at c_2
      refine r_iconst (pc := 13) C 1 dX6_isIn_13 (by decide) ?_
      refine r_goto (pc := 14) C 18 dX6_isIn_14 (by decide) ?_
      exact r_iret (pc := 18) C hr hlk dX6_isIn_18 rfl (by simp_all [bI]) rfl
theorem dX6_least_0 : decode cX6_least 0 = .ok (.iload_n 0, 1) := by decide +kernel
theorem dX6_least_1 : decode cX6_least 1 = .ok (.iload_n 1, 1) := by decide +kernel
theorem dX6_least_2 : decode cX6_least 2 = .ok (.if_icmp .ge 7, 3) := by decide +kernel
theorem dX6_least_5 : decode cX6_least 5 = .ok (.iload_n 0, 1) := by decide +kernel
theorem dX6_least_6 : decode cX6_least 6 = .ok (.goto 4, 3) := by decide +kernel
theorem dX6_least_9 : decode cX6_least 9 = .ok (.iload_n 1, 1) := by decide +kernel
theorem dX6_least_10 : decode cX6_least 10 = .ok (.ireturn, 1) := by decide +kernel
set_option maxHeartbeats 400000 in
set_option maxRecDepth 20000 in
theorem t_X6_least (l : Launch) (ad : Nat → Nat) (D : va_G) (tys : List (ClassId × FieldType)) (bk : va_W) (pre post : va_W) (a b : Int32)  : CTi l yX6_least cX6_least 2 .int ({ frames := 0, cells := 0, slots := 0, locals := 0 }) ad D tys (pre ++ (bk ++ post)) [.int a, .int b] (mnI a b) (pre ++ (bk ++ post)) := by
  refine CTi.of (lv0 := [(0, .int a), (1, .int b)]) (by decide) rfl (Nat.le_of_ble_eq_true rfl) (fun p e s m args below meth c A C hr hlk => ?_)
  have C : Cx p s m args c cX6_least 2 RX6 ad D tys A := C
  refine r_iload_n (pc := 0) C 0 dX6_least_0 rfl rfl ?_
  refine r_iload_n (pc := 1) C 1 dX6_least_1 rfl rfl ?_
  refine r_icmp_ge (pc := 2) C 9 dX6_least_2 (by decide) (fun c_1 => ?_) (fun c_1 => ?_)
  · skip
    refine r_iload_n (pc := 9) C 1 dX6_least_9 rfl rfl ?_
    exact r_iret (pc := 10) C hr hlk dX6_least_10 rfl (by simp_all [mnI]) rfl
  · skip
    refine r_iload_n (pc := 5) C 0 dX6_least_5 rfl rfl ?_
    refine r_goto (pc := 6) C 10 dX6_least_6 (by decide) ?_
    exact r_iret (pc := 10) C hr hlk dX6_least_10 rfl (by simp_all [mnI]) rfl
theorem dX6_greatest_0 : decode cX6_greatest 0 = .ok (.iload_n 0, 1) := by decide +kernel
theorem dX6_greatest_1 : decode cX6_greatest 1 = .ok (.iload_n 1, 1) := by decide +kernel
theorem dX6_greatest_2 : decode cX6_greatest 2 = .ok (.if_icmp .le 7, 3) := by decide +kernel
theorem dX6_greatest_5 : decode cX6_greatest 5 = .ok (.iload_n 0, 1) := by decide +kernel
theorem dX6_greatest_6 : decode cX6_greatest 6 = .ok (.goto 4, 3) := by decide +kernel
theorem dX6_greatest_9 : decode cX6_greatest 9 = .ok (.iload_n 1, 1) := by decide +kernel
theorem dX6_greatest_10 : decode cX6_greatest 10 = .ok (.ireturn, 1) := by decide +kernel
set_option maxHeartbeats 400000 in
set_option maxRecDepth 20000 in
theorem t_X6_greatest (l : Launch) (ad : Nat → Nat) (D : va_G) (tys : List (ClassId × FieldType)) (bk : va_W) (pre post : va_W) (a b : Int32)  : CTi l yX6_greatest cX6_greatest 2 .int ({ frames := 0, cells := 0, slots := 0, locals := 0 }) ad D tys (pre ++ (bk ++ post)) [.int a, .int b] (mxI a b) (pre ++ (bk ++ post)) := by
  refine CTi.of (lv0 := [(0, .int a), (1, .int b)]) (by decide) rfl (Nat.le_of_ble_eq_true rfl) (fun p e s m args below meth c A C hr hlk => ?_)
  have C : Cx p s m args c cX6_greatest 2 RX6 ad D tys A := C
  refine r_iload_n (pc := 0) C 0 dX6_greatest_0 rfl rfl ?_
  refine r_iload_n (pc := 1) C 1 dX6_greatest_1 rfl rfl ?_
  refine r_icmp_le (pc := 2) C 9 dX6_greatest_2 (by decide) (fun c_1 => ?_) (fun c_1 => ?_)
  · skip
    refine r_iload_n (pc := 9) C 1 dX6_greatest_9 rfl rfl ?_
    exact r_iret (pc := 10) C hr hlk dX6_greatest_10 rfl (by simp_all [mxI]) rfl
  · skip
    refine r_iload_n (pc := 5) C 0 dX6_greatest_5 rfl rfl ?_
    refine r_goto (pc := 6) C 10 dX6_greatest_6 (by decide) ?_
    exact r_iret (pc := 10) C hr hlk dX6_greatest_10 rfl (by simp_all [mxI]) rfl
theorem dX6_isOne_0 : decode cX6_isOne 0 = .ok (.iload_n 1, 1) := by decide +kernel
theorem dX6_isOne_1 : decode cX6_isOne 1 = .ok (.ifCond .lt 17, 3) := by decide +kernel
theorem dX6_isOne_4 : decode cX6_isOne 4 = .ok (.iload_n 1, 1) := by decide +kernel
theorem dX6_isOne_5 : decode cX6_isOne 5 = .ok (.aload_n 0, 1) := by decide +kernel
theorem dX6_isOne_6 : decode cX6_isOne 6 = .ok (.getfield 7, 3) := by decide +kernel
theorem dX6_isOne_9 : decode cX6_isOne 9 = .ok (.iconst 0, 1) := by decide +kernel
theorem dX6_isOne_10 : decode cX6_isOne 10 = .ok (.iaload, 1) := by decide +kernel
theorem dX6_isOne_11 : decode cX6_isOne 11 = .ok (.if_icmp .ge 7, 3) := by decide +kernel
theorem dX6_isOne_14 : decode cX6_isOne 14 = .ok (.iconst 1, 1) := by decide +kernel
theorem dX6_isOne_15 : decode cX6_isOne 15 = .ok (.goto 4, 3) := by decide +kernel
theorem dX6_isOne_18 : decode cX6_isOne 18 = .ok (.iconst 0, 1) := by decide +kernel
theorem dX6_isOne_19 : decode cX6_isOne 19 = .ok (.ireturn, 1) := by decide +kernel
set_option maxHeartbeats 400000 in
set_option maxRecDepth 20000 in
theorem t_X6_isOne (l : Launch) (ad : Nat → Nat) (D : va_G) (cs : Nat → ClassId) (h : Nat → Nat) (σ : Nat → Nat → Int32) (pre post : va_W) (n : Nat) (o : Int32) (hN : σ 0 0 = nI n) (hn : n ≤ 8) : CTi l yX6_isOne cX6_isOne 2 .boolean ({ frames := 0, cells := 0, slots := 0, locals := 0 }) ad D (tysW cs) (pre ++ (wM cs h σ ++ post)) [.ref (h 0), .int o] (bI (¬ o < 0 ∧ ¬ nI n ≤ o)) (pre ++ (wM cs h σ ++ post)) := by
  refine CTi.of (lv0 := [(0, .ref (h 0)), (1, .int o)]) (by decide) rfl (Nat.le_of_ble_eq_true rfl) (fun p e s m args below meth c A C hr hlk => ?_)
  have C : Cx p s m args c cX6_isOne 2 RX6 ad D (tysW cs) A := C
  refine r_iload_n (pc := 0) C 1 dX6_isOne_0 rfl rfl ?_
  refine r_if_lt (pc := 1) C 18 dX6_isOne_1 (by decide) (fun c_1 => ?_) (fun c_1 => ?_)
  · skip
    refine r_iconst (pc := 18) C 0 dX6_isOne_18 (by decide) ?_
    exact r_iret (pc := 19) C hr hlk dX6_isOne_19 rfl (by simp_all [bI]) rfl
  · skip
    refine r_iload_n (pc := 4) C 1 dX6_isOne_4 rfl rfl ?_
    refine r_aload_n (pc := 5) C 0 dX6_isOne_5 rfl rfl ?_
    refine mg_s (pc := 6) C fl_RX6_7 dX6_isOne_6 ?_
    refine r_iconst (pc := 9) C 0 dX6_isOne_9 (by decide) ?_
    refine al_s (pc := 10) C 0 (rfl) (by omega) dX6_isOne_10 (σ 0 0) rfl ?_
    refine r_eqi (y := nI n) (hN) ?_
    refine r_icmp_ge (pc := 11) C 18 dX6_isOne_11 (by decide) (fun c_2 => ?_) (fun c_2 => ?_)
    · skip
      refine r_iconst (pc := 18) C 0 dX6_isOne_18 (by decide) ?_
      exact r_iret (pc := 19) C hr hlk dX6_isOne_19 rfl (by simp_all [bI]) rfl
    · skip
      refine r_iconst (pc := 14) C 1 dX6_isOne_14 (by decide) ?_
      refine r_goto (pc := 15) C 19 dX6_isOne_15 (by decide) ?_
      exact r_iret (pc := 19) C hr hlk dX6_isOne_19 rfl (by simp_all [bI]) rfl
theorem dX6_its_0 : decode cX6_its 0 = .ok (.aload_n 0, 1) := by decide +kernel
theorem dX6_its_1 : decode cX6_its 1 = .ok (.getfield 7, 3) := by decide +kernel
theorem dX6_its_4 : decode cX6_its 4 = .ok (.bipush 8, 2) := by decide +kernel
theorem dX6_its_6 : decode cX6_its 6 = .ok (.iconst 5, 1) := by decide +kernel
theorem dX6_its_7 : decode cX6_its 7 = .ok (.iload_n 1, 1) := by decide +kernel
theorem dX6_its_8 : decode cX6_its 8 = .ok (.imul, 1) := by decide +kernel
theorem dX6_its_9 : decode cX6_its 9 = .ok (.iadd, 1) := by decide +kernel
theorem dX6_its_10 : decode cX6_its 10 = .ok (.iload_n 2, 1) := by decide +kernel
theorem dX6_its_11 : decode cX6_its 11 = .ok (.iadd, 1) := by decide +kernel
theorem dX6_its_12 : decode cX6_its 12 = .ok (.iaload, 1) := by decide +kernel
theorem dX6_its_13 : decode cX6_its 13 = .ok (.ireturn, 1) := by decide +kernel
set_option maxHeartbeats 400000 in
set_option maxRecDepth 20000 in
theorem t_X6_its (l : Launch) (ad : Nat → Nat) (D : va_G) (cs : Nat → ClassId) (h : Nat → Nat) (σ : Nat → Nat → Int32) (pre post : va_W) (o k : Nat) (ho : o < 8) (hk : k < 5) : CTi l yX6_its cX6_its 3 .int ({ frames := 0, cells := 0, slots := 0, locals := 0 }) ad D (tysW cs) (pre ++ (wM cs h σ ++ post)) [.ref (h 0), .int (nI o), .int (nI k)] (σ 0 (8 + 5 * o + k)) (pre ++ (wM cs h σ ++ post)) := by
  refine CTi.of (lv0 := [(0, .ref (h 0)), (1, .int (nI o)), (2, .int (nI k))]) (by decide) rfl (Nat.le_of_ble_eq_true rfl) (fun p e s m args below meth c A C hr hlk => ?_)
  have C : Cx p s m args c cX6_its 3 RX6 ad D (tysW cs) A := C
  refine r_aload_n (pc := 0) C 0 dX6_its_0 rfl rfl ?_
  refine mg_s (pc := 1) C fl_RX6_7 dX6_its_1 ?_
  refine r_bipush (pc := 4) C 8 dX6_its_4 (by decide) ?_
  refine r_iconst (pc := 6) C 5 dX6_its_6 (by decide) ?_
  refine r_iload_n (pc := 7) C 1 dX6_its_7 rfl rfl ?_
  refine r_imul (pc := 8) C dX6_its_8 ?_
  refine r_eqi (y := nI (5 * o)) (pk_mul 5 o) ?_
  refine r_iadd (pc := 9) C dX6_its_9 ?_
  refine r_eqi (y := nI (8 + 5 * o)) (nI_add 8 (5 * o)) ?_
  refine r_iload_n (pc := 10) C 2 dX6_its_10 rfl rfl ?_
  refine r_iadd (pc := 11) C dX6_its_11 ?_
  refine r_eqi (y := nI (8 + 5 * o + k)) (nI_add (8 + 5 * o) k) ?_
  refine al_s (pc := 12) C (8 + 5 * o + k) (rfl) (by omega) dX6_its_12 (σ 0 (8 + 5 * o + k)) rfl ?_
  exact r_iret (pc := 13) C hr hlk dX6_its_13 rfl rfl rfl
theorem dX6_becomes_0 : decode cX6_becomes 0 = .ok (.aload_n 0, 1) := by decide +kernel
theorem dX6_becomes_1 : decode cX6_becomes 1 = .ok (.getfield 7, 3) := by decide +kernel
theorem dX6_becomes_4 : decode cX6_becomes 4 = .ok (.iload_n 1, 1) := by decide +kernel
theorem dX6_becomes_5 : decode cX6_becomes 5 = .ok (.iaload, 1) := by decide +kernel
theorem dX6_becomes_6 : decode cX6_becomes 6 = .ok (.istore_n 3, 1) := by decide +kernel
theorem dX6_becomes_7 : decode cX6_becomes 7 = .ok (.aload_n 0, 1) := by decide +kernel
theorem dX6_becomes_8 : decode cX6_becomes 8 = .ok (.getfield 7, 3) := by decide +kernel
theorem dX6_becomes_11 : decode cX6_becomes 11 = .ok (.iload_n 1, 1) := by decide +kernel
theorem dX6_becomes_12 : decode cX6_becomes 12 = .ok (.iload_n 2, 1) := by decide +kernel
theorem dX6_becomes_13 : decode cX6_becomes 13 = .ok (.iastore, 1) := by decide +kernel
theorem dX6_becomes_14 : decode cX6_becomes 14 = .ok (.iload_n 3, 1) := by decide +kernel
theorem dX6_becomes_15 : decode cX6_becomes 15 = .ok (.ireturn, 1) := by decide +kernel
set_option maxHeartbeats 400000 in
set_option maxRecDepth 20000 in
theorem t_X6_becomes (l : Launch) (ad : Nat → Nat) (D : va_G) (cs : Nat → ClassId) (h : Nat → Nat) (σ : Nat → Nat → Int32) (pre post : va_W) (a : Nat) (v : Int32) (ha : a < 48) : CTi l yX6_becomes cX6_becomes 4 .int ({ frames := 0, cells := 0, slots := 0, locals := 0 }) ad D (tysW cs) (pre ++ (wM cs h σ ++ post)) [.ref (h 0), .int (nI a), .int v] (σ 0 a) (pre ++ (wM cs h (su σ 0 (upd (σ 0) a v)) ++ post)) := by
  refine CTi.of (lv0 := [(0, .ref (h 0)), (1, .int (nI a)), (2, .int v)]) (by decide) rfl (Nat.le_of_ble_eq_true rfl) (fun p e s m args below meth c A C hr hlk => ?_)
  have C : Cx p s m args c cX6_becomes 4 RX6 ad D (tysW cs) A := C
  refine r_aload_n (pc := 0) C 0 dX6_becomes_0 rfl rfl ?_
  refine mg_s (pc := 1) C fl_RX6_7 dX6_becomes_1 ?_
  refine r_iload_n (pc := 4) C 1 dX6_becomes_4 rfl rfl ?_
  refine al_s (pc := 5) C a (rfl) (by omega) dX6_becomes_5 (σ 0 a) rfl ?_
  refine r_istore_n (pc := 6) C [(3, .int (σ 0 a)), (0, .ref (h 0)), (1, .int (nI a)), (2, .int v)] dX6_becomes_6 rfl (by decide) rfl ?_
  refine r_aload_n (pc := 7) C 1 dX6_becomes_7 rfl rfl ?_
  refine mg_s (pc := 8) C fl_RX6_7 dX6_becomes_8 ?_
  refine r_iload_n (pc := 11) C 2 dX6_becomes_11 rfl rfl ?_
  refine r_iload_n (pc := 12) C 3 dX6_becomes_12 rfl rfl ?_
  refine as_s (pc := 13) C a (rfl) (by omega) dX6_becomes_13 ?_
  refine r_iload_n (pc := 14) C 0 dX6_becomes_14 rfl rfl ?_
  exact r_iret (pc := 15) C hr hlk dX6_becomes_15 rfl rfl rfl
