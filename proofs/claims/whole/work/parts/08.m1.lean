theorem dX6_isIn_0 : decode cX6_isIn 0 = .ok (.lload_n 0, 1) := by decide +kernel
theorem dX6_isIn_1 : decode cX6_isIn 1 = .ok (.lload_n 2, 1) := by decide +kernel
theorem dX6_isIn_2 : decode cX6_isIn 2 = .ok (.lcmp, 1) := by decide +kernel
theorem dX6_isIn_3 : decode cX6_isIn 3 = .ok (.ifCond .lt 14, 3) := by decide +kernel
theorem dX6_isIn_6 : decode cX6_isIn 6 = .ok (.lload_n 0, 1) := by decide +kernel
theorem dX6_isIn_7 : decode cX6_isIn 7 = .ok (.lload 4, 2) := by decide +kernel
theorem dX6_isIn_9 : decode cX6_isIn 9 = .ok (.lcmp, 1) := by decide +kernel
theorem dX6_isIn_10 : decode cX6_isIn 10 = .ok (.ifCond .gt 7, 3) := by decide +kernel
theorem dX6_isIn_13 : decode cX6_isIn 13 = .ok (.iconst 1, 1) := by decide +kernel
theorem dX6_isIn_14 : decode cX6_isIn 14 = .ok (.goto 4, 3) := by decide +kernel
theorem dX6_isIn_17 : decode cX6_isIn 17 = .ok (.iconst 0, 1) := by decide +kernel
theorem dX6_isIn_18 : decode cX6_isIn 18 = .ok (.ireturn, 1) := by decide +kernel
set_option maxHeartbeats 400000 in
set_option maxRecDepth 20000 in
theorem t_X6_isIn (l : Launch) (ad : Nat → Nat) (D : va_G) (tys : List (ClassId × FieldType)) (bk : va_W) (pre post : va_W) (x lo hi : Int32)  : CTi l yX6_isIn cX6_isIn 6 .boolean ({ frames := 0, cells := 0, slots := 0, locals := 0 }) ad D tys (pre ++ (bk ++ post)) [.long x.toInt64, .long lo.toInt64, .long hi.toInt64] (bI (inB x lo hi = true)) (pre ++ (bk ++ post)) := by
  refine CTi.of (lv0 := [(0, .long x.toInt64), (2, .long lo.toInt64), (4, .long hi.toInt64)]) (by decide) rfl (Nat.le_of_ble_eq_true rfl) (fun p e s m args below meth c A C hr hlk => ?_)
  have C : Cx p s m args c cX6_isIn 6 RX6 ad D tys A := C
  refine r_lload_n (pc := 0) C 0 dX6_isIn_0 rfl rfl ?_
  refine r_lload_n (pc := 1) C 1 dX6_isIn_1 rfl rfl ?_
  refine r_lcmp (pc := 2) C dX6_isIn_2 ?_
  refine r_if_lt (pc := 3) C 17 dX6_isIn_3 (by decide) (fun c_1 => ?_) (fun c_1 => ?_)
  · skip
    have c_1 := (lg_cmp_lt _ _).mp c_1
    rw [i64_lt] at c_1
    refine r_iconst (pc := 17) C 0 dX6_isIn_17 (by decide) ?_
    exact r_iret (pc := 18) C hr hlk dX6_isIn_18 rfl (by simp_all [bI, inB]) rfl
  · skip
    have c_1 := mt (lg_cmp_lt _ _).mpr c_1
    rw [i64_lt] at c_1
    refine r_lload_n (pc := 6) C 0 dX6_isIn_6 rfl rfl ?_
    refine r_lload (pc := 7) C 2 dX6_isIn_7 rfl ?_
    refine r_lcmp (pc := 9) C dX6_isIn_9 ?_
    refine r_if_gt (pc := 10) C 17 dX6_isIn_10 (by decide) (fun c_2 => ?_) (fun c_2 => ?_)
    · skip
      have c_2 := (lg_cmp_gt _ _).mp c_2
      rw [i64_lt] at c_2
      refine r_iconst (pc := 17) C 0 dX6_isIn_17 (by decide) ?_
      exact r_iret (pc := 18) C hr hlk dX6_isIn_18 rfl (by simp_all [bI, inB]) rfl
    · skip
      have c_2 := mt (lg_cmp_gt _ _).mpr c_2
      rw [i64_lt] at c_2
      refine r_iconst (pc := 13) C 1 dX6_isIn_13 (by decide) ?_
      refine r_goto (pc := 14) C 18 dX6_isIn_14 (by decide) ?_
      exact r_iret (pc := 18) C hr hlk dX6_isIn_18 rfl (by simp_all [bI, inB]) rfl
theorem dX6_least_0 : decode cX6_least 0 = .ok (.iload_n 0, 1) := by decide +kernel
theorem dX6_least_1 : decode cX6_least 1 = .ok (.iload_n 1, 1) := by decide +kernel
theorem dX6_least_2 : decode cX6_least 2 = .ok (.if_icmp .ge 7, 3) := by decide +kernel
theorem dX6_least_5 : decode cX6_least 5 = .ok (.iload_n 0, 1) := by decide +kernel
theorem dX6_least_6 : decode cX6_least 6 = .ok (.goto 4, 3) := by decide +kernel
theorem dX6_least_9 : decode cX6_least 9 = .ok (.iload_n 1, 1) := by decide +kernel
theorem dX6_least_10 : decode cX6_least 10 = .ok (.ireturn, 1) := by decide +kernel
set_option maxHeartbeats 400000 in
set_option maxRecDepth 20000 in
theorem t_X6_least (l : Launch) (ad : Nat → Nat) (D : va_G) (tys : List (ClassId × FieldType)) (bk : va_W) (pre post : va_W) (a b : Int32)  : CTi l yX6_least cX6_least 2 .int ({ frames := 0, cells := 0, slots := 0, locals := 0 }) ad D tys (pre ++ (bk ++ post)) [.int a, .int b] (mnI a b) (pre ++ (bk ++ post)) := by
  refine CTi.of (lv0 := [(0, .int a), (1, .int b)]) (by decide) rfl (Nat.le_of_ble_eq_true rfl) (fun p e s m args below meth c A C hr hlk => ?_)
  have C : Cx p s m args c cX6_least 2 RX6 ad D tys A := C
  refine r_iload_n (pc := 0) C 0 dX6_least_0 rfl rfl ?_
  refine r_iload_n (pc := 1) C 1 dX6_least_1 rfl rfl ?_
  refine r_icmp_ge (pc := 2) C 9 dX6_least_2 (by decide) (fun c_1 => ?_) (fun c_1 => ?_)
  · skip
    refine r_iload_n (pc := 9) C 1 dX6_least_9 rfl rfl ?_
    exact r_iret (pc := 10) C hr hlk dX6_least_10 rfl (by simp only [mnI]; first | exact (if_pos ‹_›).symm | exact (if_neg ‹_›).symm) rfl
  · skip
    refine r_iload_n (pc := 5) C 0 dX6_least_5 rfl rfl ?_
    refine r_goto (pc := 6) C 10 dX6_least_6 (by decide) ?_
    exact r_iret (pc := 10) C hr hlk dX6_least_10 rfl (by simp only [mnI]; first | exact (if_pos ‹_›).symm | exact (if_neg ‹_›).symm) rfl
theorem dX6_greatest_0 : decode cX6_greatest 0 = .ok (.iload_n 0, 1) := by decide +kernel
theorem dX6_greatest_1 : decode cX6_greatest 1 = .ok (.iload_n 1, 1) := by decide +kernel
theorem dX6_greatest_2 : decode cX6_greatest 2 = .ok (.if_icmp .le 7, 3) := by decide +kernel
theorem dX6_greatest_5 : decode cX6_greatest 5 = .ok (.iload_n 0, 1) := by decide +kernel
theorem dX6_greatest_6 : decode cX6_greatest 6 = .ok (.goto 4, 3) := by decide +kernel
theorem dX6_greatest_9 : decode cX6_greatest 9 = .ok (.iload_n 1, 1) := by decide +kernel
theorem dX6_greatest_10 : decode cX6_greatest 10 = .ok (.ireturn, 1) := by decide +kernel
set_option maxHeartbeats 400000 in
set_option maxRecDepth 20000 in
theorem t_X6_greatest (l : Launch) (ad : Nat → Nat) (D : va_G) (tys : List (ClassId × FieldType)) (bk : va_W) (pre post : va_W) (a b : Int32)  : CTi l yX6_greatest cX6_greatest 2 .int ({ frames := 0, cells := 0, slots := 0, locals := 0 }) ad D tys (pre ++ (bk ++ post)) [.int a, .int b] (mxI a b) (pre ++ (bk ++ post)) := by
  refine CTi.of (lv0 := [(0, .int a), (1, .int b)]) (by decide) rfl (Nat.le_of_ble_eq_true rfl) (fun p e s m args below meth c A C hr hlk => ?_)
  have C : Cx p s m args c cX6_greatest 2 RX6 ad D tys A := C
  refine r_iload_n (pc := 0) C 0 dX6_greatest_0 rfl rfl ?_
  refine r_iload_n (pc := 1) C 1 dX6_greatest_1 rfl rfl ?_
  refine r_icmp_le (pc := 2) C 9 dX6_greatest_2 (by decide) (fun c_1 => ?_) (fun c_1 => ?_)
  · skip
    refine r_iload_n (pc := 9) C 1 dX6_greatest_9 rfl rfl ?_
    exact r_iret (pc := 10) C hr hlk dX6_greatest_10 rfl (by simp only [mxI]; first | exact (if_pos ‹_›).symm | exact (if_neg ‹_›).symm) rfl
  · skip
    refine r_iload_n (pc := 5) C 0 dX6_greatest_5 rfl rfl ?_
    refine r_goto (pc := 6) C 10 dX6_greatest_6 (by decide) ?_
    exact r_iret (pc := 10) C hr hlk dX6_greatest_10 rfl (by simp only [mxI]; first | exact (if_pos ‹_›).symm | exact (if_neg ‹_›).symm) rfl
theorem dX6_isOne_0 : decode cX6_isOne 0 = .ok (.iload_n 1, 1) := by decide +kernel
theorem dX6_isOne_1 : decode cX6_isOne 1 = .ok (.ifCond .lt 17, 3) := by decide +kernel
theorem dX6_isOne_4 : decode cX6_isOne 4 = .ok (.iload_n 1, 1) := by decide +kernel
theorem dX6_isOne_5 : decode cX6_isOne 5 = .ok (.aload_n 0, 1) := by decide +kernel
theorem dX6_isOne_6 : decode cX6_isOne 6 = .ok (.getfield 7, 3) := by decide +kernel
theorem dX6_isOne_9 : decode cX6_isOne 9 = .ok (.iconst 0, 1) := by decide +kernel
theorem dX6_isOne_10 : decode cX6_isOne 10 = .ok (.iaload, 1) := by decide +kernel
theorem dX6_isOne_11 : decode cX6_isOne 11 = .ok (.if_icmp .ge 7, 3) := by decide +kernel
theorem dX6_isOne_14 : decode cX6_isOne 14 = .ok (.iconst 1, 1) := by decide +kernel
theorem dX6_isOne_15 : decode cX6_isOne 15 = .ok (.goto 4, 3) := by decide +kernel
theorem dX6_isOne_18 : decode cX6_isOne 18 = .ok (.iconst 0, 1) := by decide +kernel
theorem dX6_isOne_19 : decode cX6_isOne 19 = .ok (.ireturn, 1) := by decide +kernel
set_option maxHeartbeats 400000 in
set_option maxRecDepth 20000 in
theorem t_X6_isOne (l : Launch) (ad : Nat → Nat) (D : va_G) (cs : Nat → ClassId) (h : Nat → Nat) (σ : Nat → Nat → Int32) (pre post : va_W) (n : Nat) (o : Int32) (hN : σ 0 0 = nI n) (hn : n ≤ 8) : CTi l yX6_isOne cX6_isOne 2 .boolean ({ frames := 0, cells := 0, slots := 0, locals := 0 }) ad D (tysW cs) (pre ++ (wM cs h σ ++ post)) [.ref (h 0), .int o] (bI (oneB n o = true)) (pre ++ (wM cs h σ ++ post)) := by
  refine CTi.of (lv0 := [(0, .ref (h 0)), (1, .int o)]) (by decide) rfl (Nat.le_of_ble_eq_true rfl) (fun p e s m args below meth c A C hr hlk => ?_)
  have C : Cx p s m args c cX6_isOne 2 RX6 ad D (tysW cs) A := C
  refine r_iload_n (pc := 0) C 1 dX6_isOne_0 rfl rfl ?_
  refine r_if_lt (pc := 1) C 18 dX6_isOne_1 (by decide) (fun c_1 => ?_) (fun c_1 => ?_)
  · skip
    refine r_iconst (pc := 18) C 0 dX6_isOne_18 (by decide) ?_
    exact r_iret (pc := 19) C hr hlk dX6_isOne_19 rfl (by simp_all [bI, oneB]) rfl
  · skip
    refine r_iload_n (pc := 4) C 1 dX6_isOne_4 rfl rfl ?_
    refine r_aload_n (pc := 5) C 0 dX6_isOne_5 rfl rfl ?_
    refine mg_s (pc := 6) C fl_RX6_7 dX6_isOne_6 ?_
    refine r_iconst (pc := 9) C 0 dX6_isOne_9 (by decide) ?_
    refine al_s (pc := 10) C 0 (rfl) (by omega) dX6_isOne_10 (σ 0 0) rfl ?_
    refine r_eqi (y := nI n) (hN) ?_
    refine r_icmp_ge (pc := 11) C 18 dX6_isOne_11 (by decide) (fun c_2 => ?_) (fun c_2 => ?_)
    · skip
      refine r_iconst (pc := 18) C 0 dX6_isOne_18 (by decide) ?_
      exact r_iret (pc := 19) C hr hlk dX6_isOne_19 rfl (by simp_all [bI, oneB]) rfl
    · skip
      refine r_iconst (pc := 14) C 1 dX6_isOne_14 (by decide) ?_
      refine r_goto (pc := 15) C 19 dX6_isOne_15 (by decide) ?_
      exact r_iret (pc := 19) C hr hlk dX6_isOne_19 rfl (by simp_all [bI, oneB]) rfl
theorem t_X6_isOne' (l : Launch) (ad : Nat → Nat) (D : va_G) (cs : Nat → ClassId) (h : Nat → Nat) (σ : Nat → Nat → Int32) (pre post : va_W) (f0_ : Nat → Int32) (e0_ : σ 0 = f0_) (n : Nat) (o : Int32) (hN : f0_ 0 = nI n) (hn : n ≤ 8) : CTi l yX6_isOne cX6_isOne 2 .boolean ({ frames := 0, cells := 0, slots := 0, locals := 0 }) ad D (tysW cs) (pre ++ (wM cs h σ ++ post)) [.ref (h 0), .int o] (bI (oneB n o = true)) (pre ++ (wM cs h σ ++ post)) := by
  subst e0_
  exact t_X6_isOne l ad D cs h σ pre post n o hN hn
theorem dX6_its_0 : decode cX6_its 0 = .ok (.aload_n 0, 1) := by decide +kernel
theorem dX6_its_1 : decode cX6_its 1 = .ok (.getfield 7, 3) := by decide +kernel
theorem dX6_its_4 : decode cX6_its 4 = .ok (.bipush 8, 2) := by decide +kernel
theorem dX6_its_6 : decode cX6_its 6 = .ok (.iconst 5, 1) := by decide +kernel
theorem dX6_its_7 : decode cX6_its 7 = .ok (.iload_n 1, 1) := by decide +kernel
theorem dX6_its_8 : decode cX6_its 8 = .ok (.imul, 1) := by decide +kernel
theorem dX6_its_9 : decode cX6_its 9 = .ok (.iadd, 1) := by decide +kernel
theorem dX6_its_10 : decode cX6_its 10 = .ok (.iload_n 2, 1) := by decide +kernel
theorem dX6_its_11 : decode cX6_its 11 = .ok (.iadd, 1) := by decide +kernel
theorem dX6_its_12 : decode cX6_its 12 = .ok (.iaload, 1) := by decide +kernel
theorem dX6_its_13 : decode cX6_its 13 = .ok (.ireturn, 1) := by decide +kernel
set_option maxHeartbeats 400000 in
set_option maxRecDepth 20000 in
theorem t_X6_its (l : Launch) (ad : Nat → Nat) (D : va_G) (cs : Nat → ClassId) (h : Nat → Nat) (σ : Nat → Nat → Int32) (pre post : va_W) (o k : Nat) (ho : o < 8) (hk : k < 5) : CTi l yX6_its cX6_its 3 .int ({ frames := 0, cells := 0, slots := 0, locals := 0 }) ad D (tysW cs) (pre ++ (wM cs h σ ++ post)) [.ref (h 0), .int (nI o), .int (nI k)] (σ 0 (8 + 5 * o + k)) (pre ++ (wM cs h σ ++ post)) := by
  refine CTi.of (lv0 := [(0, .ref (h 0)), (1, .int (nI o)), (2, .int (nI k))]) (by decide) rfl (Nat.le_of_ble_eq_true rfl) (fun p e s m args below meth c A C hr hlk => ?_)
  have C : Cx p s m args c cX6_its 3 RX6 ad D (tysW cs) A := C
  refine r_aload_n (pc := 0) C 0 dX6_its_0 rfl rfl ?_
  refine mg_s (pc := 1) C fl_RX6_7 dX6_its_1 ?_
  refine r_bipush (pc := 4) C 8 dX6_its_4 (by decide) ?_
  refine r_iconst (pc := 6) C 5 dX6_its_6 (by decide) ?_
  refine r_iload_n (pc := 7) C 1 dX6_its_7 rfl rfl ?_
  refine r_imul (pc := 8) C dX6_its_8 ?_
  refine r_eqi (y := nI (5 * o)) (pk_mul 5 o) ?_
  refine r_iadd (pc := 9) C dX6_its_9 ?_
  refine r_eqi (y := nI (8 + 5 * o)) (nI_add 8 (5 * o)) ?_
  refine r_iload_n (pc := 10) C 2 dX6_its_10 rfl rfl ?_
  refine r_iadd (pc := 11) C dX6_its_11 ?_
  refine r_eqi (y := nI (8 + 5 * o + k)) (nI_add (8 + 5 * o) k) ?_
  refine al_s (pc := 12) C (8 + 5 * o + k) (rfl) (by omega) dX6_its_12 (σ 0 (8 + 5 * o + k)) rfl ?_
  exact r_iret (pc := 13) C hr hlk dX6_its_13 rfl rfl rfl
theorem t_X6_its' (l : Launch) (ad : Nat → Nat) (D : va_G) (cs : Nat → ClassId) (h : Nat → Nat) (σ : Nat → Nat → Int32) (pre post : va_W) (f0_ : Nat → Int32) (e0_ : σ 0 = f0_) (o k : Nat) (ho : o < 8) (hk : k < 5) : CTi l yX6_its cX6_its 3 .int ({ frames := 0, cells := 0, slots := 0, locals := 0 }) ad D (tysW cs) (pre ++ (wM cs h σ ++ post)) [.ref (h 0), .int (nI o), .int (nI k)] (f0_ (8 + 5 * o + k)) (pre ++ (wM cs h σ ++ post)) := by
  subst e0_
  exact t_X6_its l ad D cs h σ pre post o k ho hk
theorem dX6_becomes_0 : decode cX6_becomes 0 = .ok (.aload_n 0, 1) := by decide +kernel
theorem dX6_becomes_1 : decode cX6_becomes 1 = .ok (.getfield 7, 3) := by decide +kernel
theorem dX6_becomes_4 : decode cX6_becomes 4 = .ok (.iload_n 1, 1) := by decide +kernel
theorem dX6_becomes_5 : decode cX6_becomes 5 = .ok (.iaload, 1) := by decide +kernel
theorem dX6_becomes_6 : decode cX6_becomes 6 = .ok (.istore_n 3, 1) := by decide +kernel
theorem dX6_becomes_7 : decode cX6_becomes 7 = .ok (.aload_n 0, 1) := by decide +kernel
theorem dX6_becomes_8 : decode cX6_becomes 8 = .ok (.getfield 7, 3) := by decide +kernel
theorem dX6_becomes_11 : decode cX6_becomes 11 = .ok (.iload_n 1, 1) := by decide +kernel
theorem dX6_becomes_12 : decode cX6_becomes 12 = .ok (.iload_n 2, 1) := by decide +kernel
theorem dX6_becomes_13 : decode cX6_becomes 13 = .ok (.iastore, 1) := by decide +kernel
theorem dX6_becomes_14 : decode cX6_becomes 14 = .ok (.iload_n 3, 1) := by decide +kernel
theorem dX6_becomes_15 : decode cX6_becomes 15 = .ok (.ireturn, 1) := by decide +kernel
set_option maxHeartbeats 400000 in
set_option maxRecDepth 20000 in
theorem t_X6_becomes (l : Launch) (ad : Nat → Nat) (D : va_G) (cs : Nat → ClassId) (h : Nat → Nat) (σ : Nat → Nat → Int32) (pre post : va_W) (a : Nat) (v : Int32) (ha : a < 48) : CTi l yX6_becomes cX6_becomes 4 .int ({ frames := 0, cells := 0, slots := 0, locals := 0 }) ad D (tysW cs) (pre ++ (wM cs h σ ++ post)) [.ref (h 0), .int (nI a), .int v] (σ 0 a) (pre ++ (wM cs h (su σ 0 (upd (σ 0) a v)) ++ post)) := by
  refine CTi.of (lv0 := [(0, .ref (h 0)), (1, .int (nI a)), (2, .int v)]) (by decide) rfl (Nat.le_of_ble_eq_true rfl) (fun p e s m args below meth c A C hr hlk => ?_)
  have C : Cx p s m args c cX6_becomes 4 RX6 ad D (tysW cs) A := C
  refine r_aload_n (pc := 0) C 0 dX6_becomes_0 rfl rfl ?_
  refine mg_s (pc := 1) C fl_RX6_7 dX6_becomes_1 ?_
  refine r_iload_n (pc := 4) C 1 dX6_becomes_4 rfl rfl ?_
  refine al_s (pc := 5) C a (rfl) (by omega) dX6_becomes_5 (σ 0 a) rfl ?_
  refine r_istore_n (pc := 6) C [(3, .int (σ 0 a)), (0, .ref (h 0)), (1, .int (nI a)), (2, .int v)] dX6_becomes_6 rfl (by decide) rfl ?_
  refine r_aload_n (pc := 7) C 1 dX6_becomes_7 rfl rfl ?_
  refine mg_s (pc := 8) C fl_RX6_7 dX6_becomes_8 ?_
  refine r_iload_n (pc := 11) C 2 dX6_becomes_11 rfl rfl ?_
  refine r_iload_n (pc := 12) C 3 dX6_becomes_12 rfl rfl ?_
  refine as_s (pc := 13) C a (rfl) (by omega) dX6_becomes_13 (σ 0) (rfl) ?_
  refine r_iload_n (pc := 14) C 0 dX6_becomes_14 rfl rfl ?_
  exact r_iret (pc := 15) C hr hlk dX6_becomes_15 rfl rfl rfl
theorem t_X6_becomes' (l : Launch) (ad : Nat → Nat) (D : va_G) (cs : Nat → ClassId) (h : Nat → Nat) (σ : Nat → Nat → Int32) (pre post : va_W) (f0_ : Nat → Int32) (e0_ : σ 0 = f0_) (a : Nat) (v : Int32) (ha : a < 48) : CTi l yX6_becomes cX6_becomes 4 .int ({ frames := 0, cells := 0, slots := 0, locals := 0 }) ad D (tysW cs) (pre ++ (wM cs h σ ++ post)) [.ref (h 0), .int (nI a), .int v] (f0_ a) (pre ++ (wM cs h (su σ 0 (upd f0_ a v)) ++ post)) := by
  subst e0_
  exact t_X6_becomes l ad D cs h σ pre post a v ha
theorem dX6_within_0 : decode cX6_within 0 = .ok (.iload_n 0, 1) := by decide +kernel
theorem dX6_within_1 : decode cX6_within 1 = .ok (.ifCond .ge 7, 3) := by decide +kernel
theorem dX6_within_4 : decode cX6_within 4 = .ok (.iconst 0, 1) := by decide +kernel
theorem dX6_within_5 : decode cX6_within 5 = .ok (.goto 15, 3) := by decide +kernel
theorem dX6_within_8 : decode cX6_within 8 = .ok (.iload_n 0, 1) := by decide +kernel
theorem dX6_within_9 : decode cX6_within 9 = .ok (.bipush 99, 2) := by decide +kernel
theorem dX6_within_11 : decode cX6_within 11 = .ok (.if_icmp .le 8, 3) := by decide +kernel
theorem dX6_within_14 : decode cX6_within 14 = .ok (.bipush 99, 2) := by decide +kernel
theorem dX6_within_16 : decode cX6_within 16 = .ok (.goto 4, 3) := by decide +kernel
theorem dX6_within_19 : decode cX6_within 19 = .ok (.iload_n 0, 1) := by decide +kernel
theorem dX6_within_20 : decode cX6_within 20 = .ok (.ireturn, 1) := by decide +kernel
set_option maxHeartbeats 400000 in
set_option maxRecDepth 20000 in
theorem t_X6_within (l : Launch) (ad : Nat → Nat) (D : va_G) (tys : List (ClassId × FieldType)) (bk : va_W) (pre post : va_W) (v : Int32)  : CTi l yX6_within cX6_within 1 .int ({ frames := 0, cells := 0, slots := 0, locals := 0 }) ad D tys (pre ++ (bk ++ post)) [.int v] (heldI v) (pre ++ (bk ++ post)) := by
  refine CTi.of (lv0 := [(0, .int v)]) (by decide) rfl (Nat.le_of_ble_eq_true rfl) (fun p e s m args below meth c A C hr hlk => ?_)
  have C : Cx p s m args c cX6_within 1 RX6 ad D tys A := C
  refine r_iload_n (pc := 0) C 0 dX6_within_0 rfl rfl ?_
  refine r_if_ge (pc := 1) C 8 dX6_within_1 (by decide) (fun c_1 => ?_) (fun c_1 => ?_)
  · skip
    refine r_iload_n (pc := 8) C 0 dX6_within_8 rfl rfl ?_
    refine r_bipush (pc := 9) C 99 dX6_within_9 (by decide) ?_
    refine r_icmp_le (pc := 11) C 19 dX6_within_11 (by decide) (fun c_2 => ?_) (fun c_2 => ?_)
    · skip
      refine r_iload_n (pc := 19) C 0 dX6_within_19 rfl rfl ?_
      exact r_iret (pc := 20) C hr hlk dX6_within_20 rfl (by simp [heldI, *]) rfl
    · skip
      refine r_bipush (pc := 14) C 99 dX6_within_14 (by decide) ?_
      refine r_goto (pc := 16) C 20 dX6_within_16 (by decide) ?_
      exact r_iret (pc := 20) C hr hlk dX6_within_20 rfl (by simp [heldI, *]) rfl
  · skip
    refine r_iconst (pc := 4) C 0 dX6_within_4 (by decide) ?_
    refine r_goto (pc := 5) C 20 dX6_within_5 (by decide) ?_
    exact r_iret (pc := 20) C hr hlk dX6_within_20 rfl (by simp [heldI, *]) rfl
theorem dX6_wears_0 : decode cX6_wears 0 = .ok (.aload_n 0, 1) := by decide +kernel
theorem dX6_wears_1 : decode cX6_wears 1 = .ok (.iload_n 1, 1) := by decide +kernel
theorem dX6_wears_2 : decode cX6_wears 2 = .ok (.iconst 3, 1) := by decide +kernel
theorem dX6_wears_3 : decode cX6_wears 3 = .ok (.invokevirtual 156, 3) := by decide +kernel
theorem dX6_wears_6 : decode cX6_wears 6 = .ok (.istore_n 2, 1) := by decide +kernel
theorem dX6_wears_7 : decode cX6_wears 7 = .ok (.aload_n 0, 1) := by decide +kernel
theorem dX6_wears_8 : decode cX6_wears 8 = .ok (.iload_n 1, 1) := by decide +kernel
theorem dX6_wears_9 : decode cX6_wears 9 = .ok (.iconst 0, 1) := by decide +kernel
theorem dX6_wears_10 : decode cX6_wears 10 = .ok (.invokevirtual 156, 3) := by decide +kernel
theorem dX6_wears_13 : decode cX6_wears 13 = .ok (.tableswitch 75 1 5 #[35, 39, 43, 59, 73], 35) := by decide +kernel
theorem dX6_wears_48 : decode cX6_wears 48 = .ok (.iload_n 2, 1) := by decide +kernel
theorem dX6_wears_49 : decode cX6_wears 49 = .ok (.iconst 2, 1) := by decide +kernel
theorem dX6_wears_50 : decode cX6_wears 50 = .ok (.idiv, 1) := by decide +kernel
theorem dX6_wears_51 : decode cX6_wears 51 = .ok (.ireturn, 1) := by decide +kernel
theorem dX6_wears_52 : decode cX6_wears 52 = .ok (.iload_n 2, 1) := by decide +kernel
theorem dX6_wears_53 : decode cX6_wears 53 = .ok (.iconst 4, 1) := by decide +kernel
theorem dX6_wears_54 : decode cX6_wears 54 = .ok (.idiv, 1) := by decide +kernel
theorem dX6_wears_55 : decode cX6_wears 55 = .ok (.ireturn, 1) := by decide +kernel
theorem dX6_wears_56 : decode cX6_wears 56 = .ok (.bipush 99, 2) := by decide +kernel
theorem dX6_wears_58 : decode cX6_wears 58 = .ok (.iload_n 2, 1) := by decide +kernel
theorem dX6_wears_59 : decode cX6_wears 59 = .ok (.iconst 2, 1) := by decide +kernel
theorem dX6_wears_60 : decode cX6_wears 60 = .ok (.idiv, 1) := by decide +kernel
theorem dX6_wears_61 : decode cX6_wears 61 = .ok (.aload_n 0, 1) := by decide +kernel
theorem dX6_wears_62 : decode cX6_wears 62 = .ok (.getfield 7, 3) := by decide +kernel
theorem dX6_wears_65 : decode cX6_wears 65 = .ok (.iconst 4, 1) := by decide +kernel
theorem dX6_wears_66 : decode cX6_wears 66 = .ok (.iaload, 1) := by decide +kernel
theorem dX6_wears_67 : decode cX6_wears 67 = .ok (.iadd, 1) := by decide +kernel
theorem dX6_wears_68 : decode cX6_wears 68 = .ok (.invokestatic 159, 3) := by decide +kernel
theorem dX6_wears_71 : decode cX6_wears 71 = .ok (.ireturn, 1) := by decide +kernel
theorem dX6_wears_72 : decode cX6_wears 72 = .ok (.iload_n 2, 1) := by decide +kernel
theorem dX6_wears_73 : decode cX6_wears 73 = .ok (.iconst 4, 1) := by decide +kernel
theorem dX6_wears_74 : decode cX6_wears 74 = .ok (.idiv, 1) := by decide +kernel
theorem dX6_wears_75 : decode cX6_wears 75 = .ok (.aload_n 0, 1) := by decide +kernel
theorem dX6_wears_76 : decode cX6_wears 76 = .ok (.iload_n 1, 1) := by decide +kernel
theorem dX6_wears_77 : decode cX6_wears 77 = .ok (.iconst 2, 1) := by decide +kernel
theorem dX6_wears_78 : decode cX6_wears 78 = .ok (.invokevirtual 156, 3) := by decide +kernel
theorem dX6_wears_81 : decode cX6_wears 81 = .ok (.bipush 10, 2) := by decide +kernel
theorem dX6_wears_83 : decode cX6_wears 83 = .ok (.idiv, 1) := by decide +kernel
theorem dX6_wears_84 : decode cX6_wears 84 = .ok (.iadd, 1) := by decide +kernel
theorem dX6_wears_85 : decode cX6_wears 85 = .ok (.ireturn, 1) := by decide +kernel
theorem dX6_wears_86 : decode cX6_wears 86 = .ok (.iconst 0, 1) := by decide +kernel
theorem dX6_wears_87 : decode cX6_wears 87 = .ok (.ireturn, 1) := by decide +kernel
theorem dX6_wears_88 : decode cX6_wears 88 = .ok (.iload_n 2, 1) := by decide +kernel
theorem dX6_wears_89 : decode cX6_wears 89 = .ok (.ireturn, 1) := by decide +kernel
set_option maxHeartbeats 400000 in
set_option maxRecDepth 20000 in
theorem t_X6_wears (l : Launch) (ad : Nat → Nat) (D : va_G) (cs : Nat → ClassId) (h : Nat → Nat) (σ : Nat → Nat → Int32) (pre post : va_W) (n : Nat) (o : Nat) (hn : n ≤ 8) (ho : o < n) : CTi l yX6_wears cX6_wears 3 .int ({ frames := 1, cells := 0, slots := 0, locals := 22 }) ad D (tysW cs) (pre ++ (wM cs h σ ++ post)) [.ref (h 0), .int (nI o)] (wearsF (σ 0) o) (pre ++ (wM cs h σ ++ post)) := by
  refine CTi.of (lv0 := [(0, .ref (h 0)), (1, .int (nI o))]) (by decide) rfl (Nat.le_of_ble_eq_true rfl) (fun p e s m args below meth c A C hr hlk => ?_)
  have C : Cx p s m args c cX6_wears 3 RX6 ad D (tysW cs) A := C
  refine r_aload_n (pc := 0) C 0 dX6_wears_0 rfl rfl ?_
  refine r_iload_n (pc := 1) C 1 dX6_wears_1 rfl rfl ?_
  refine r_iconst (pc := 2) C 3 dX6_wears_2 (by decide) ?_
  refine rc_Vi (pc := 3) C (t_X6_its' l ad D cs h σ pre post (σ 0) (rfl) o 3 (by omega) (by omega)) mv_X6_its ml_RX6_156 rfl ⟨Nat.le_of_ble_eq_true rfl, Nat.le_of_ble_eq_true rfl⟩ ⟨rfl, rfl⟩ (q0 := 0) rfl rfl rfl rfl rfl rfl (Nat.le_of_ble_eq_true rfl) dX6_wears_3 ?_
  refine r_istore_n (pc := 6) C [(2, .int (σ 0 (8 + 5 * o + 3))), (0, .ref (h 0)), (1, .int (nI o))] dX6_wears_6 rfl (by decide) rfl ?_
  refine r_aload_n (pc := 7) C 1 dX6_wears_7 rfl rfl ?_
  refine r_iload_n (pc := 8) C 2 dX6_wears_8 rfl rfl ?_
  refine r_iconst (pc := 9) C 0 dX6_wears_9 (by decide) ?_
  refine rc_Vi (pc := 10) C (t_X6_its' l ad D cs h σ pre post (σ 0) (rfl) o 0 (by omega) (by omega)) mv_X6_its ml_RX6_156 rfl ⟨Nat.le_of_ble_eq_true rfl, Nat.le_of_ble_eq_true rfl⟩ ⟨rfl, rfl⟩ (q0 := 0) rfl rfl rfl rfl rfl rfl (Nat.le_of_ble_eq_true rfl) dX6_wears_10 ?_
  refine r_eqi (y := σ 0 (8 + 5 * o)) rfl ?_
  have w_1 := sw_cases (σ 0 (8 + 5 * o)) 1 5 (by decide)
  rcases w_1 with w_1 | w_1
  · skip
    refine r_tableOut (pc := 13) C 35 88 dX6_wears_13 w_1 (by decide) ?_
    have w_1_1 : ¬ (σ 0 (8 + 5 * o)) = 1 := fun q => by rw [q] at w_1; revert w_1; decide
    have w_1_2 : ¬ (σ 0 (8 + 5 * o)) = 2 := fun q => by rw [q] at w_1; revert w_1; decide
    have w_1_3 : ¬ (σ 0 (8 + 5 * o)) = 3 := fun q => by rw [q] at w_1; revert w_1; decide
    have w_1_4 : ¬ (σ 0 (8 + 5 * o)) = 4 := fun q => by rw [q] at w_1; revert w_1; decide
    have w_1_5 : ¬ (σ 0 (8 + 5 * o)) = 5 := fun q => by rw [q] at w_1; revert w_1; decide
    refine r_iload_n (pc := 88) C 0 dX6_wears_88 rfl rfl ?_
    exact r_iret (pc := 89) C hr hlk dX6_wears_89 rfl (by simp [wearsF, *]) rfl
  · obtain ⟨i_1, hi_1, w_1⟩ := w_1
    have hc_1 : i_1 = 0 ∨ i_1 = 1 ∨ i_1 = 2 ∨ i_1 = 3 ∨ i_1 = 4 := by omega
    rcases hc_1 with rfl | rfl | rfl | rfl | rfl
    · skip
      refine r_tableIn (pc := 13) C 35 48 dX6_wears_13 (by rw [w_1]; decide) (by rw [w_1]; decide) (by rw [w_1]; rfl) (by decide) ?_
      have w_1 : σ 0 (8 + 5 * o) = 1 := Int32.toInt_inj.mp (by rw [w_1]; rfl)
      refine r_iload_n (pc := 48) C 0 dX6_wears_48 rfl rfl ?_
      refine r_iconst (pc := 49) C 2 dX6_wears_49 (by decide) ?_
      refine r_idiv (pc := 50) C dX6_wears_50 (by decide) ?_
      exact r_iret (pc := 51) C hr hlk dX6_wears_51 rfl (by simp [wearsF, *]) rfl
    · skip
      refine r_tableIn (pc := 13) C 35 52 dX6_wears_13 (by rw [w_1]; decide) (by rw [w_1]; decide) (by rw [w_1]; rfl) (by decide) ?_
      have w_1 : σ 0 (8 + 5 * o) = 2 := Int32.toInt_inj.mp (by rw [w_1]; rfl)
      refine r_iload_n (pc := 52) C 0 dX6_wears_52 rfl rfl ?_
      refine r_iconst (pc := 53) C 4 dX6_wears_53 (by decide) ?_
      refine r_idiv (pc := 54) C dX6_wears_54 (by decide) ?_
      exact r_iret (pc := 55) C hr hlk dX6_wears_55 rfl (by simp [wearsF, *]) rfl
    · skip
      refine r_tableIn (pc := 13) C 35 56 dX6_wears_13 (by rw [w_1]; decide) (by rw [w_1]; decide) (by rw [w_1]; rfl) (by decide) ?_
      have w_1 : σ 0 (8 + 5 * o) = 3 := Int32.toInt_inj.mp (by rw [w_1]; rfl)
      refine r_bipush (pc := 56) C 99 dX6_wears_56 (by decide) ?_
      refine r_iload_n (pc := 58) C 0 dX6_wears_58 rfl rfl ?_
      refine r_iconst (pc := 59) C 2 dX6_wears_59 (by decide) ?_
      refine r_idiv (pc := 60) C dX6_wears_60 (by decide) ?_
      refine r_aload_n (pc := 61) C 1 dX6_wears_61 rfl rfl ?_
      refine mg_s (pc := 62) C fl_RX6_7 dX6_wears_62 ?_
      refine r_iconst (pc := 65) C 4 dX6_wears_65 (by decide) ?_
      refine al_s (pc := 66) C 4 (rfl) (by omega) dX6_wears_66 (σ 0 4) rfl ?_
      refine r_iadd (pc := 67) C dX6_wears_67 ?_
      refine rc_Si (pc := 68) C (t_X6_least l ad D (tysW cs) (wM cs h σ) pre post  (99 : Int32) (((σ 0 (8 + 5 * o + 3)) / 2) + (σ 0 4)) ) ms_X6_least ml_RX6_159 rfl ⟨Nat.le_of_ble_eq_true rfl, Nat.le_of_ble_eq_true rfl⟩ ⟨rfl, rfl⟩ rfl rfl rfl (Nat.le_of_ble_eq_true rfl) dX6_wears_68 ?_
      exact r_iret (pc := 71) C hr hlk dX6_wears_71 rfl (by simp [wearsF, *]) rfl
    · skip
      refine r_tableIn (pc := 13) C 35 72 dX6_wears_13 (by rw [w_1]; decide) (by rw [w_1]; decide) (by rw [w_1]; rfl) (by decide) ?_
      have w_1 : σ 0 (8 + 5 * o) = 4 := Int32.toInt_inj.mp (by rw [w_1]; rfl)
      refine r_iload_n (pc := 72) C 0 dX6_wears_72 rfl rfl ?_
      refine r_iconst (pc := 73) C 4 dX6_wears_73 (by decide) ?_
      refine r_idiv (pc := 74) C dX6_wears_74 (by decide) ?_
      refine r_aload_n (pc := 75) C 1 dX6_wears_75 rfl rfl ?_
      refine r_iload_n (pc := 76) C 2 dX6_wears_76 rfl rfl ?_
      refine r_iconst (pc := 77) C 2 dX6_wears_77 (by decide) ?_
      refine rc_Vi (pc := 78) C (t_X6_its' l ad D cs h σ pre post (σ 0) (rfl) o 2 (by omega) (by omega)) mv_X6_its ml_RX6_156 rfl ⟨Nat.le_of_ble_eq_true rfl, Nat.le_of_ble_eq_true rfl⟩ ⟨rfl, rfl⟩ (q0 := 0) rfl rfl rfl rfl rfl rfl (Nat.le_of_ble_eq_true rfl) dX6_wears_78 ?_
      refine r_bipush (pc := 81) C 10 dX6_wears_81 (by decide) ?_
      refine r_idiv (pc := 83) C dX6_wears_83 (by decide) ?_
      refine r_iadd (pc := 84) C dX6_wears_84 ?_
      exact r_iret (pc := 85) C hr hlk dX6_wears_85 rfl (by simp [wearsF, *]) rfl
    · skip
      refine r_tableIn (pc := 13) C 35 86 dX6_wears_13 (by rw [w_1]; decide) (by rw [w_1]; decide) (by rw [w_1]; rfl) (by decide) ?_
      have w_1 : σ 0 (8 + 5 * o) = 5 := Int32.toInt_inj.mp (by rw [w_1]; rfl)
      refine r_iconst (pc := 86) C 0 dX6_wears_86 (by decide) ?_
      exact r_iret (pc := 87) C hr hlk dX6_wears_87 rfl (by simp [wearsF, *]) rfl
theorem t_X6_wears' (l : Launch) (ad : Nat → Nat) (D : va_G) (cs : Nat → ClassId) (h : Nat → Nat) (σ : Nat → Nat → Int32) (pre post : va_W) (f0_ : Nat → Int32) (e0_ : σ 0 = f0_) (n : Nat) (o : Nat) (hn : n ≤ 8) (ho : o < n) : CTi l yX6_wears cX6_wears 3 .int ({ frames := 1, cells := 0, slots := 0, locals := 22 }) ad D (tysW cs) (pre ++ (wM cs h σ ++ post)) [.ref (h 0), .int (nI o)] (wearsF f0_ o) (pre ++ (wM cs h σ ++ post)) := by
  subst e0_
  exact t_X6_wears l ad D cs h σ pre post n o hn ho
theorem dX6_sees_0 : decode cX6_sees 0 = .ok (.aload_n 0, 1) := by decide +kernel
theorem dX6_sees_1 : decode cX6_sees 1 = .ok (.iload_n 1, 1) := by decide +kernel
theorem dX6_sees_2 : decode cX6_sees 2 = .ok (.invokevirtual 162, 3) := by decide +kernel
theorem dX6_sees_5 : decode cX6_sees 5 = .ok (.istore_n 3, 1) := by decide +kernel
theorem dX6_sees_6 : decode cX6_sees 6 = .ok (.aload_n 0, 1) := by decide +kernel
theorem dX6_sees_7 : decode cX6_sees 7 = .ok (.iload_n 2, 1) := by decide +kernel
theorem dX6_sees_8 : decode cX6_sees 8 = .ok (.iconst 1, 1) := by decide +kernel
theorem dX6_sees_9 : decode cX6_sees 9 = .ok (.invokevirtual 156, 3) := by decide +kernel
theorem dX6_sees_12 : decode cX6_sees 12 = .ok (.bipush 99, 2) := by decide +kernel
theorem dX6_sees_14 : decode cX6_sees 14 = .ok (.iload_n 3, 1) := by decide +kernel
theorem dX6_sees_15 : decode cX6_sees 15 = .ok (.isub, 1) := by decide +kernel
theorem dX6_sees_16 : decode cX6_sees 16 = .ok (.imul, 1) := by decide +kernel
theorem dX6_sees_17 : decode cX6_sees 17 = .ok (.aload_n 0, 1) := by decide +kernel
theorem dX6_sees_18 : decode cX6_sees 18 = .ok (.iload_n 1, 1) := by decide +kernel
theorem dX6_sees_19 : decode cX6_sees 19 = .ok (.iconst 2, 1) := by decide +kernel
theorem dX6_sees_20 : decode cX6_sees 20 = .ok (.invokevirtual 156, 3) := by decide +kernel
theorem dX6_sees_23 : decode cX6_sees 23 = .ok (.iload_n 3, 1) := by decide +kernel
theorem dX6_sees_24 : decode cX6_sees 24 = .ok (.imul, 1) := by decide +kernel
theorem dX6_sees_25 : decode cX6_sees 25 = .ok (.iadd, 1) := by decide +kernel
theorem dX6_sees_26 : decode cX6_sees 26 = .ok (.bipush 99, 2) := by decide +kernel
theorem dX6_sees_28 : decode cX6_sees 28 = .ok (.idiv, 1) := by decide +kernel
theorem dX6_sees_29 : decode cX6_sees 29 = .ok (.ireturn, 1) := by decide +kernel
set_option maxHeartbeats 400000 in
set_option maxRecDepth 20000 in
theorem t_X6_sees (l : Launch) (ad : Nat → Nat) (D : va_G) (cs : Nat → ClassId) (h : Nat → Nat) (σ : Nat → Nat → Int32) (pre post : va_W) (n : Nat) (o q : Nat) (hn : n ≤ 8) (ho : o < n) (hq : q < n) : CTi l yX6_sees cX6_sees 4 .int ({ frames := 2, cells := 0, slots := 0, locals := 44 }) ad D (tysW cs) (pre ++ (wM cs h σ ++ post)) [.ref (h 0), .int (nI o), .int (nI q)] (seesF (σ 0) o q) (pre ++ (wM cs h σ ++ post)) := by
  refine CTi.of (lv0 := [(0, .ref (h 0)), (1, .int (nI o)), (2, .int (nI q))]) (by decide) rfl (Nat.le_of_ble_eq_true rfl) (fun p e s m args below meth c A C hr hlk => ?_)
  have C : Cx p s m args c cX6_sees 4 RX6 ad D (tysW cs) A := C
  refine r_aload_n (pc := 0) C 0 dX6_sees_0 rfl rfl ?_
  refine r_iload_n (pc := 1) C 1 dX6_sees_1 rfl rfl ?_
  refine rc_Vi (pc := 2) C (t_X6_wears' l ad D cs h σ pre post (σ 0) (rfl) n o hn ho) mv_X6_wears ml_RX6_162 rfl ⟨Nat.le_of_ble_eq_true rfl, Nat.le_of_ble_eq_true rfl⟩ ⟨rfl, rfl⟩ (q0 := 0) rfl rfl rfl rfl rfl rfl (Nat.le_of_ble_eq_true rfl) dX6_sees_2 ?_
  refine r_istore_n (pc := 5) C [(3, .int (wearsF (σ 0) o)), (0, .ref (h 0)), (1, .int (nI o)), (2, .int (nI q))] dX6_sees_5 rfl (by decide) rfl ?_
  refine r_aload_n (pc := 6) C 1 dX6_sees_6 rfl rfl ?_
  refine r_iload_n (pc := 7) C 3 dX6_sees_7 rfl rfl ?_
  refine r_iconst (pc := 8) C 1 dX6_sees_8 (by decide) ?_
  refine rc_Vi (pc := 9) C (t_X6_its' l ad D cs h σ pre post (σ 0) (rfl) q 1 (by omega) (by omega)) mv_X6_its ml_RX6_156 rfl ⟨Nat.le_of_ble_eq_true rfl, Nat.le_of_ble_eq_true rfl⟩ ⟨rfl, rfl⟩ (q0 := 0) rfl rfl rfl rfl rfl rfl (Nat.le_of_ble_eq_true rfl) dX6_sees_9 ?_
  refine r_bipush (pc := 12) C 99 dX6_sees_12 (by decide) ?_
  refine r_iload_n (pc := 14) C 0 dX6_sees_14 rfl rfl ?_
  refine r_isub (pc := 15) C dX6_sees_15 ?_
  refine r_imul (pc := 16) C dX6_sees_16 ?_
  refine r_aload_n (pc := 17) C 1 dX6_sees_17 rfl rfl ?_
  refine r_iload_n (pc := 18) C 2 dX6_sees_18 rfl rfl ?_
  refine r_iconst (pc := 19) C 2 dX6_sees_19 (by decide) ?_
  refine rc_Vi (pc := 20) C (t_X6_its' l ad D cs h σ pre post (σ 0) (rfl) o 2 (by omega) (by omega)) mv_X6_its ml_RX6_156 rfl ⟨Nat.le_of_ble_eq_true rfl, Nat.le_of_ble_eq_true rfl⟩ ⟨rfl, rfl⟩ (q0 := 0) rfl rfl rfl rfl rfl rfl (Nat.le_of_ble_eq_true rfl) dX6_sees_20 ?_
  refine r_iload_n (pc := 23) C 0 dX6_sees_23 rfl rfl ?_
  refine r_imul (pc := 24) C dX6_sees_24 ?_
  refine r_iadd (pc := 25) C dX6_sees_25 ?_
  refine r_bipush (pc := 26) C 99 dX6_sees_26 (by decide) ?_
  refine r_idiv (pc := 28) C dX6_sees_28 (by decide) ?_
  exact r_iret (pc := 29) C hr hlk dX6_sees_29 rfl (by first | rfl | simp [bI, *]) rfl
theorem t_X6_sees' (l : Launch) (ad : Nat → Nat) (D : va_G) (cs : Nat → ClassId) (h : Nat → Nat) (σ : Nat → Nat → Int32) (pre post : va_W) (f0_ : Nat → Int32) (e0_ : σ 0 = f0_) (n : Nat) (o q : Nat) (hn : n ≤ 8) (ho : o < n) (hq : q < n) : CTi l yX6_sees cX6_sees 4 .int ({ frames := 2, cells := 0, slots := 0, locals := 44 }) ad D (tysW cs) (pre ++ (wM cs h σ ++ post)) [.ref (h 0), .int (nI o), .int (nI q)] (seesF f0_ o q) (pre ++ (wM cs h σ ++ post)) := by
  subst e0_
  exact t_X6_sees l ad D cs h σ pre post n o q hn ho hq
theorem dX6_offers_0 : decode cX6_offers 0 = .ok (.aload_n 0, 1) := by decide +kernel
theorem dX6_offers_1 : decode cX6_offers 1 = .ok (.iload_n 1, 1) := by decide +kernel
theorem dX6_offers_2 : decode cX6_offers 2 = .ok (.iload_n 2, 1) := by decide +kernel
theorem dX6_offers_3 : decode cX6_offers 3 = .ok (.invokevirtual 165, 3) := by decide +kernel
theorem dX6_offers_6 : decode cX6_offers 6 = .ok (.istore_n 3, 1) := by decide +kernel
theorem dX6_offers_7 : decode cX6_offers 7 = .ok (.aload_n 0, 1) := by decide +kernel
theorem dX6_offers_8 : decode cX6_offers 8 = .ok (.iload_n 1, 1) := by decide +kernel
theorem dX6_offers_9 : decode cX6_offers 9 = .ok (.iconst 0, 1) := by decide +kernel
theorem dX6_offers_10 : decode cX6_offers 10 = .ok (.invokevirtual 156, 3) := by decide +kernel
theorem dX6_offers_13 : decode cX6_offers 13 = .ok (.tableswitch 70 1 5 #[35, 44, 48, 59, 65], 35) := by decide +kernel
theorem dX6_offers_48 : decode cX6_offers 48 = .ok (.iload_n 3, 1) := by decide +kernel
theorem dX6_offers_49 : decode cX6_offers 49 = .ok (.aload_n 0, 1) := by decide +kernel
theorem dX6_offers_50 : decode cX6_offers 50 = .ok (.getfield 7, 3) := by decide +kernel
theorem dX6_offers_53 : decode cX6_offers 53 = .ok (.iconst 4, 1) := by decide +kernel
theorem dX6_offers_54 : decode cX6_offers 54 = .ok (.iaload, 1) := by decide +kernel
theorem dX6_offers_55 : decode cX6_offers 55 = .ok (.isub, 1) := by decide +kernel
theorem dX6_offers_56 : decode cX6_offers 56 = .ok (.ireturn, 1) := by decide +kernel
theorem dX6_offers_57 : decode cX6_offers 57 = .ok (.iload_n 3, 1) := by decide +kernel
theorem dX6_offers_58 : decode cX6_offers 58 = .ok (.iconst 5, 1) := by decide +kernel
theorem dX6_offers_59 : decode cX6_offers 59 = .ok (.iadd, 1) := by decide +kernel
theorem dX6_offers_60 : decode cX6_offers 60 = .ok (.ireturn, 1) := by decide +kernel
theorem dX6_offers_61 : decode cX6_offers 61 = .ok (.iconst 2, 1) := by decide +kernel
theorem dX6_offers_62 : decode cX6_offers 62 = .ok (.iload_n 3, 1) := by decide +kernel
theorem dX6_offers_63 : decode cX6_offers 63 = .ok (.aload_n 0, 1) := by decide +kernel
theorem dX6_offers_64 : decode cX6_offers 64 = .ok (.getfield 7, 3) := by decide +kernel
theorem dX6_offers_67 : decode cX6_offers 67 = .ok (.iconst 4, 1) := by decide +kernel
theorem dX6_offers_68 : decode cX6_offers 68 = .ok (.iaload, 1) := by decide +kernel
theorem dX6_offers_69 : decode cX6_offers 69 = .ok (.isub, 1) := by decide +kernel
theorem dX6_offers_70 : decode cX6_offers 70 = .ok (.imul, 1) := by decide +kernel
theorem dX6_offers_71 : decode cX6_offers 71 = .ok (.ireturn, 1) := by decide +kernel
theorem dX6_offers_72 : decode cX6_offers 72 = .ok (.iload_n 3, 1) := by decide +kernel
theorem dX6_offers_73 : decode cX6_offers 73 = .ok (.iconst 5, 1) := by decide +kernel
theorem dX6_offers_74 : decode cX6_offers 74 = .ok (.iadd, 1) := by decide +kernel
theorem dX6_offers_75 : decode cX6_offers 75 = .ok (.iconst 2, 1) := by decide +kernel
theorem dX6_offers_76 : decode cX6_offers 76 = .ok (.idiv, 1) := by decide +kernel
theorem dX6_offers_77 : decode cX6_offers 77 = .ok (.ireturn, 1) := by decide +kernel
theorem dX6_offers_78 : decode cX6_offers 78 = .ok (.iload_n 3, 1) := by decide +kernel
theorem dX6_offers_79 : decode cX6_offers 79 = .ok (.bipush 10, 2) := by decide +kernel
theorem dX6_offers_81 : decode cX6_offers 81 = .ok (.isub, 1) := by decide +kernel
theorem dX6_offers_82 : decode cX6_offers 82 = .ok (.ireturn, 1) := by decide +kernel
theorem dX6_offers_83 : decode cX6_offers 83 = .ok (.iload_n 3, 1) := by decide +kernel
theorem dX6_offers_84 : decode cX6_offers 84 = .ok (.ireturn, 1) := by decide +kernel
set_option maxHeartbeats 400000 in
set_option maxRecDepth 20000 in
theorem t_X6_offers (l : Launch) (ad : Nat → Nat) (D : va_G) (cs : Nat → ClassId) (h : Nat → Nat) (σ : Nat → Nat → Int32) (pre post : va_W) (n : Nat) (o q : Nat) (hn : n ≤ 8) (ho : o < n) (hq : q < n) : CTi l yX6_offers cX6_offers 4 .int ({ frames := 3, cells := 0, slots := 0, locals := 67 }) ad D (tysW cs) (pre ++ (wM cs h σ ++ post)) [.ref (h 0), .int (nI o), .int (nI q)] (offersF (σ 0) o q) (pre ++ (wM cs h σ ++ post)) := by
  refine CTi.of (lv0 := [(0, .ref (h 0)), (1, .int (nI o)), (2, .int (nI q))]) (by decide) rfl (Nat.le_of_ble_eq_true rfl) (fun p e s m args below meth c A C hr hlk => ?_)
  have C : Cx p s m args c cX6_offers 4 RX6 ad D (tysW cs) A := C
  refine r_aload_n (pc := 0) C 0 dX6_offers_0 rfl rfl ?_
  refine r_iload_n (pc := 1) C 1 dX6_offers_1 rfl rfl ?_
  refine r_iload_n (pc := 2) C 2 dX6_offers_2 rfl rfl ?_
  refine rc_Vi (pc := 3) C (t_X6_sees' l ad D cs h σ pre post (σ 0) (rfl) n o q hn ho hq) mv_X6_sees ml_RX6_165 rfl ⟨Nat.le_of_ble_eq_true rfl, Nat.le_of_ble_eq_true rfl⟩ ⟨rfl, rfl⟩ (q0 := 0) rfl rfl rfl rfl rfl rfl (Nat.le_of_ble_eq_true rfl) dX6_offers_3 ?_
  refine r_istore_n (pc := 6) C [(3, .int (seesF (σ 0) o q)), (0, .ref (h 0)), (1, .int (nI o)), (2, .int (nI q))] dX6_offers_6 rfl (by decide) rfl ?_
  refine r_aload_n (pc := 7) C 1 dX6_offers_7 rfl rfl ?_
  refine r_iload_n (pc := 8) C 2 dX6_offers_8 rfl rfl ?_
  refine r_iconst (pc := 9) C 0 dX6_offers_9 (by decide) ?_
  refine rc_Vi (pc := 10) C (t_X6_its' l ad D cs h σ pre post (σ 0) (rfl) o 0 (by omega) (by omega)) mv_X6_its ml_RX6_156 rfl ⟨Nat.le_of_ble_eq_true rfl, Nat.le_of_ble_eq_true rfl⟩ ⟨rfl, rfl⟩ (q0 := 0) rfl rfl rfl rfl rfl rfl (Nat.le_of_ble_eq_true rfl) dX6_offers_10 ?_
  refine r_eqi (y := σ 0 (8 + 5 * o)) rfl ?_
  have w_1 := sw_cases (σ 0 (8 + 5 * o)) 1 5 (by decide)
  rcases w_1 with w_1 | w_1
  · skip
    refine r_tableOut (pc := 13) C 35 83 dX6_offers_13 w_1 (by decide) ?_
    have w_1_1 : ¬ (σ 0 (8 + 5 * o)) = 1 := fun q => by rw [q] at w_1; revert w_1; decide
    have w_1_2 : ¬ (σ 0 (8 + 5 * o)) = 2 := fun q => by rw [q] at w_1; revert w_1; decide
    have w_1_3 : ¬ (σ 0 (8 + 5 * o)) = 3 := fun q => by rw [q] at w_1; revert w_1; decide
    have w_1_4 : ¬ (σ 0 (8 + 5 * o)) = 4 := fun q => by rw [q] at w_1; revert w_1; decide
    have w_1_5 : ¬ (σ 0 (8 + 5 * o)) = 5 := fun q => by rw [q] at w_1; revert w_1; decide
    refine r_iload_n (pc := 83) C 0 dX6_offers_83 rfl rfl ?_
    exact r_iret (pc := 84) C hr hlk dX6_offers_84 rfl (by simp [offersF, *]) rfl
  · obtain ⟨i_1, hi_1, w_1⟩ := w_1
    have hc_1 : i_1 = 0 ∨ i_1 = 1 ∨ i_1 = 2 ∨ i_1 = 3 ∨ i_1 = 4 := by omega
    rcases hc_1 with rfl | rfl | rfl | rfl | rfl
    · skip
      refine r_tableIn (pc := 13) C 35 48 dX6_offers_13 (by rw [w_1]; decide) (by rw [w_1]; decide) (by rw [w_1]; rfl) (by decide) ?_
      have w_1 : σ 0 (8 + 5 * o) = 1 := Int32.toInt_inj.mp (by rw [w_1]; rfl)
      refine r_iload_n (pc := 48) C 0 dX6_offers_48 rfl rfl ?_
      refine r_aload_n (pc := 49) C 1 dX6_offers_49 rfl rfl ?_
      refine mg_s (pc := 50) C fl_RX6_7 dX6_offers_50 ?_
      refine r_iconst (pc := 53) C 4 dX6_offers_53 (by decide) ?_
      refine al_s (pc := 54) C 4 (rfl) (by omega) dX6_offers_54 (σ 0 4) rfl ?_
      refine r_isub (pc := 55) C dX6_offers_55 ?_
      exact r_iret (pc := 56) C hr hlk dX6_offers_56 rfl (by simp [offersF, *]) rfl
    · skip
      refine r_tableIn (pc := 13) C 35 57 dX6_offers_13 (by rw [w_1]; decide) (by rw [w_1]; decide) (by rw [w_1]; rfl) (by decide) ?_
      have w_1 : σ 0 (8 + 5 * o) = 2 := Int32.toInt_inj.mp (by rw [w_1]; rfl)
      refine r_iload_n (pc := 57) C 0 dX6_offers_57 rfl rfl ?_
      refine r_iconst (pc := 58) C 5 dX6_offers_58 (by decide) ?_
      refine r_iadd (pc := 59) C dX6_offers_59 ?_
      exact r_iret (pc := 60) C hr hlk dX6_offers_60 rfl (by simp [offersF, *]) rfl
    · skip
      refine r_tableIn (pc := 13) C 35 61 dX6_offers_13 (by rw [w_1]; decide) (by rw [w_1]; decide) (by rw [w_1]; rfl) (by decide) ?_
      have w_1 : σ 0 (8 + 5 * o) = 3 := Int32.toInt_inj.mp (by rw [w_1]; rfl)
      refine r_iconst (pc := 61) C 2 dX6_offers_61 (by decide) ?_
      refine r_iload_n (pc := 62) C 0 dX6_offers_62 rfl rfl ?_
      refine r_aload_n (pc := 63) C 1 dX6_offers_63 rfl rfl ?_
      refine mg_s (pc := 64) C fl_RX6_7 dX6_offers_64 ?_
      refine r_iconst (pc := 67) C 4 dX6_offers_67 (by decide) ?_
      refine al_s (pc := 68) C 4 (rfl) (by omega) dX6_offers_68 (σ 0 4) rfl ?_
      refine r_isub (pc := 69) C dX6_offers_69 ?_
      refine r_imul (pc := 70) C dX6_offers_70 ?_
      exact r_iret (pc := 71) C hr hlk dX6_offers_71 rfl (by simp [offersF, *]) rfl
    · skip
      refine r_tableIn (pc := 13) C 35 72 dX6_offers_13 (by rw [w_1]; decide) (by rw [w_1]; decide) (by rw [w_1]; rfl) (by decide) ?_
      have w_1 : σ 0 (8 + 5 * o) = 4 := Int32.toInt_inj.mp (by rw [w_1]; rfl)
      refine r_iload_n (pc := 72) C 0 dX6_offers_72 rfl rfl ?_
      refine r_iconst (pc := 73) C 5 dX6_offers_73 (by decide) ?_
      refine r_iadd (pc := 74) C dX6_offers_74 ?_
      refine r_iconst (pc := 75) C 2 dX6_offers_75 (by decide) ?_
      refine r_idiv (pc := 76) C dX6_offers_76 (by decide) ?_
      exact r_iret (pc := 77) C hr hlk dX6_offers_77 rfl (by simp [offersF, *]) rfl
    · skip
      refine r_tableIn (pc := 13) C 35 78 dX6_offers_13 (by rw [w_1]; decide) (by rw [w_1]; decide) (by rw [w_1]; rfl) (by decide) ?_
      have w_1 : σ 0 (8 + 5 * o) = 5 := Int32.toInt_inj.mp (by rw [w_1]; rfl)
      refine r_iload_n (pc := 78) C 0 dX6_offers_78 rfl rfl ?_
      refine r_bipush (pc := 79) C 10 dX6_offers_79 (by decide) ?_
      refine r_isub (pc := 81) C dX6_offers_81 ?_
      exact r_iret (pc := 82) C hr hlk dX6_offers_82 rfl (by simp [offersF, *]) rfl
theorem t_X6_offers' (l : Launch) (ad : Nat → Nat) (D : va_G) (cs : Nat → ClassId) (h : Nat → Nat) (σ : Nat → Nat → Int32) (pre post : va_W) (f0_ : Nat → Int32) (e0_ : σ 0 = f0_) (n : Nat) (o q : Nat) (hn : n ≤ 8) (ho : o < n) (hq : q < n) : CTi l yX6_offers cX6_offers 4 .int ({ frames := 3, cells := 0, slots := 0, locals := 67 }) ad D (tysW cs) (pre ++ (wM cs h σ ++ post)) [.ref (h 0), .int (nI o), .int (nI q)] (offersF f0_ o q) (pre ++ (wM cs h σ ++ post)) := by
  subst e0_
  exact t_X6_offers l ad D cs h σ pre post n o q hn ho hq
theorem dX6_frays_0 : decode cX6_frays 0 = .ok (.aload_n 0, 1) := by decide +kernel
theorem dX6_frays_1 : decode cX6_frays 1 = .ok (.getfield 7, 3) := by decide +kernel
theorem dX6_frays_4 : decode cX6_frays 4 = .ok (.iconst 5, 1) := by decide +kernel
theorem dX6_frays_5 : decode cX6_frays 5 = .ok (.iaload, 1) := by decide +kernel
theorem dX6_frays_6 : decode cX6_frays 6 = .ok (.istore_n 2, 1) := by decide +kernel
theorem dX6_frays_7 : decode cX6_frays 7 = .ok (.aload_n 0, 1) := by decide +kernel
theorem dX6_frays_8 : decode cX6_frays 8 = .ok (.iload_n 1, 1) := by decide +kernel
theorem dX6_frays_9 : decode cX6_frays 9 = .ok (.iconst 0, 1) := by decide +kernel
theorem dX6_frays_10 : decode cX6_frays 10 = .ok (.invokevirtual 156, 3) := by decide +kernel
theorem dX6_frays_13 : decode cX6_frays 13 = .ok (.tableswitch 78 1 5 #[35, 39, 43, 54, 73], 35) := by decide +kernel
theorem dX6_frays_48 : decode cX6_frays 48 = .ok (.iload_n 2, 1) := by decide +kernel
theorem dX6_frays_49 : decode cX6_frays 49 = .ok (.iconst 2, 1) := by decide +kernel
theorem dX6_frays_50 : decode cX6_frays 50 = .ok (.isub, 1) := by decide +kernel
theorem dX6_frays_51 : decode cX6_frays 51 = .ok (.ireturn, 1) := by decide +kernel
theorem dX6_frays_52 : decode cX6_frays 52 = .ok (.iconst 2, 1) := by decide +kernel
theorem dX6_frays_53 : decode cX6_frays 53 = .ok (.iload_n 2, 1) := by decide +kernel
theorem dX6_frays_54 : decode cX6_frays 54 = .ok (.imul, 1) := by decide +kernel
theorem dX6_frays_55 : decode cX6_frays 55 = .ok (.ireturn, 1) := by decide +kernel
theorem dX6_frays_56 : decode cX6_frays 56 = .ok (.iload_n 2, 1) := by decide +kernel
theorem dX6_frays_57 : decode cX6_frays 57 = .ok (.iconst 2, 1) := by decide +kernel
theorem dX6_frays_58 : decode cX6_frays 58 = .ok (.isub, 1) := by decide +kernel
theorem dX6_frays_59 : decode cX6_frays 59 = .ok (.aload_n 0, 1) := by decide +kernel
theorem dX6_frays_60 : decode cX6_frays 60 = .ok (.getfield 7, 3) := by decide +kernel
theorem dX6_frays_63 : decode cX6_frays 63 = .ok (.iconst 4, 1) := by decide +kernel
theorem dX6_frays_64 : decode cX6_frays 64 = .ok (.iaload, 1) := by decide +kernel
theorem dX6_frays_65 : decode cX6_frays 65 = .ok (.isub, 1) := by decide +kernel
theorem dX6_frays_66 : decode cX6_frays 66 = .ok (.ireturn, 1) := by decide +kernel
theorem dX6_frays_67 : decode cX6_frays 67 = .ok (.aload_n 0, 1) := by decide +kernel
theorem dX6_frays_68 : decode cX6_frays 68 = .ok (.getfield 7, 3) := by decide +kernel
theorem dX6_frays_71 : decode cX6_frays 71 = .ok (.iconst 1, 1) := by decide +kernel
theorem dX6_frays_72 : decode cX6_frays 72 = .ok (.iaload, 1) := by decide +kernel
theorem dX6_frays_73 : decode cX6_frays 73 = .ok (.iconst 2, 1) := by decide +kernel
theorem dX6_frays_74 : decode cX6_frays 74 = .ok (.irem, 1) := by decide +kernel
theorem dX6_frays_75 : decode cX6_frays 75 = .ok (.ifCond .ne 9, 3) := by decide +kernel
theorem dX6_frays_78 : decode cX6_frays 78 = .ok (.iconst 2, 1) := by decide +kernel
theorem dX6_frays_79 : decode cX6_frays 79 = .ok (.iload_n 2, 1) := by decide +kernel
theorem dX6_frays_80 : decode cX6_frays 80 = .ok (.imul, 1) := by decide +kernel
theorem dX6_frays_81 : decode cX6_frays 81 = .ok (.goto 4, 3) := by decide +kernel
theorem dX6_frays_84 : decode cX6_frays 84 = .ok (.iconst 0, 1) := by decide +kernel
theorem dX6_frays_85 : decode cX6_frays 85 = .ok (.ireturn, 1) := by decide +kernel
theorem dX6_frays_86 : decode cX6_frays 86 = .ok (.iload_n 2, 1) := by decide +kernel
theorem dX6_frays_87 : decode cX6_frays 87 = .ok (.bipush 9, 2) := by decide +kernel
theorem dX6_frays_89 : decode cX6_frays 89 = .ok (.iadd, 1) := by decide +kernel
theorem dX6_frays_90 : decode cX6_frays 90 = .ok (.ireturn, 1) := by decide +kernel
theorem dX6_frays_91 : decode cX6_frays 91 = .ok (.iload_n 2, 1) := by decide +kernel
theorem dX6_frays_92 : decode cX6_frays 92 = .ok (.ireturn, 1) := by decide +kernel
set_option maxHeartbeats 400000 in
set_option maxRecDepth 20000 in
theorem t_X6_frays (l : Launch) (ad : Nat → Nat) (D : va_G) (cs : Nat → ClassId) (h : Nat → Nat) (σ : Nat → Nat → Int32) (pre post : va_W) (n : Nat) (o : Nat) (hn : n ≤ 8) (ho : o < n) : CTi l yX6_frays cX6_frays 3 .int ({ frames := 1, cells := 0, slots := 0, locals := 22 }) ad D (tysW cs) (pre ++ (wM cs h σ ++ post)) [.ref (h 0), .int (nI o)] (fraysF (σ 0) o) (pre ++ (wM cs h σ ++ post)) := by
  refine CTi.of (lv0 := [(0, .ref (h 0)), (1, .int (nI o))]) (by decide) rfl (Nat.le_of_ble_eq_true rfl) (fun p e s m args below meth c A C hr hlk => ?_)
  have C : Cx p s m args c cX6_frays 3 RX6 ad D (tysW cs) A := C
  refine r_aload_n (pc := 0) C 0 dX6_frays_0 rfl rfl ?_
  refine mg_s (pc := 1) C fl_RX6_7 dX6_frays_1 ?_
  refine r_iconst (pc := 4) C 5 dX6_frays_4 (by decide) ?_
  refine al_s (pc := 5) C 5 (rfl) (by omega) dX6_frays_5 (σ 0 5) rfl ?_
  refine r_istore_n (pc := 6) C [(2, .int (σ 0 5)), (0, .ref (h 0)), (1, .int (nI o))] dX6_frays_6 rfl (by decide) rfl ?_
  refine r_aload_n (pc := 7) C 1 dX6_frays_7 rfl rfl ?_
  refine r_iload_n (pc := 8) C 2 dX6_frays_8 rfl rfl ?_
  refine r_iconst (pc := 9) C 0 dX6_frays_9 (by decide) ?_
  refine rc_Vi (pc := 10) C (t_X6_its' l ad D cs h σ pre post (σ 0) (rfl) o 0 (by omega) (by omega)) mv_X6_its ml_RX6_156 rfl ⟨Nat.le_of_ble_eq_true rfl, Nat.le_of_ble_eq_true rfl⟩ ⟨rfl, rfl⟩ (q0 := 0) rfl rfl rfl rfl rfl rfl (Nat.le_of_ble_eq_true rfl) dX6_frays_10 ?_
  refine r_eqi (y := σ 0 (8 + 5 * o)) rfl ?_
  have w_1 := sw_cases (σ 0 (8 + 5 * o)) 1 5 (by decide)
  rcases w_1 with w_1 | w_1
  · skip
    refine r_tableOut (pc := 13) C 35 91 dX6_frays_13 w_1 (by decide) ?_
    have w_1_1 : ¬ (σ 0 (8 + 5 * o)) = 1 := fun q => by rw [q] at w_1; revert w_1; decide
    have w_1_2 : ¬ (σ 0 (8 + 5 * o)) = 2 := fun q => by rw [q] at w_1; revert w_1; decide
    have w_1_3 : ¬ (σ 0 (8 + 5 * o)) = 3 := fun q => by rw [q] at w_1; revert w_1; decide
    have w_1_4 : ¬ (σ 0 (8 + 5 * o)) = 4 := fun q => by rw [q] at w_1; revert w_1; decide
    have w_1_5 : ¬ (σ 0 (8 + 5 * o)) = 5 := fun q => by rw [q] at w_1; revert w_1; decide
    refine r_iload_n (pc := 91) C 0 dX6_frays_91 rfl rfl ?_
    exact r_iret (pc := 92) C hr hlk dX6_frays_92 rfl (by simp [fraysF, *]) rfl
  · obtain ⟨i_1, hi_1, w_1⟩ := w_1
    have hc_1 : i_1 = 0 ∨ i_1 = 1 ∨ i_1 = 2 ∨ i_1 = 3 ∨ i_1 = 4 := by omega
    rcases hc_1 with rfl | rfl | rfl | rfl | rfl
    · skip
      refine r_tableIn (pc := 13) C 35 48 dX6_frays_13 (by rw [w_1]; decide) (by rw [w_1]; decide) (by rw [w_1]; rfl) (by decide) ?_
      have w_1 : σ 0 (8 + 5 * o) = 1 := Int32.toInt_inj.mp (by rw [w_1]; rfl)
      refine r_iload_n (pc := 48) C 0 dX6_frays_48 rfl rfl ?_
      refine r_iconst (pc := 49) C 2 dX6_frays_49 (by decide) ?_
      refine r_isub (pc := 50) C dX6_frays_50 ?_
      exact r_iret (pc := 51) C hr hlk dX6_frays_51 rfl (by simp [fraysF, *]) rfl
    · skip
      refine r_tableIn (pc := 13) C 35 52 dX6_frays_13 (by rw [w_1]; decide) (by rw [w_1]; decide) (by rw [w_1]; rfl) (by decide) ?_
      have w_1 : σ 0 (8 + 5 * o) = 2 := Int32.toInt_inj.mp (by rw [w_1]; rfl)
      refine r_iconst (pc := 52) C 2 dX6_frays_52 (by decide) ?_
      refine r_iload_n (pc := 53) C 0 dX6_frays_53 rfl rfl ?_
      refine r_imul (pc := 54) C dX6_frays_54 ?_
      exact r_iret (pc := 55) C hr hlk dX6_frays_55 rfl (by simp [fraysF, *]) rfl
    · skip
      refine r_tableIn (pc := 13) C 35 56 dX6_frays_13 (by rw [w_1]; decide) (by rw [w_1]; decide) (by rw [w_1]; rfl) (by decide) ?_
      have w_1 : σ 0 (8 + 5 * o) = 3 := Int32.toInt_inj.mp (by rw [w_1]; rfl)
      refine r_iload_n (pc := 56) C 0 dX6_frays_56 rfl rfl ?_
      refine r_iconst (pc := 57) C 2 dX6_frays_57 (by decide) ?_
      refine r_isub (pc := 58) C dX6_frays_58 ?_
      refine r_aload_n (pc := 59) C 1 dX6_frays_59 rfl rfl ?_
      refine mg_s (pc := 60) C fl_RX6_7 dX6_frays_60 ?_
      refine r_iconst (pc := 63) C 4 dX6_frays_63 (by decide) ?_
      refine al_s (pc := 64) C 4 (rfl) (by omega) dX6_frays_64 (σ 0 4) rfl ?_
      refine r_isub (pc := 65) C dX6_frays_65 ?_
      exact r_iret (pc := 66) C hr hlk dX6_frays_66 rfl (by simp [fraysF, *]) rfl
    · skip
      refine r_tableIn (pc := 13) C 35 67 dX6_frays_13 (by rw [w_1]; decide) (by rw [w_1]; decide) (by rw [w_1]; rfl) (by decide) ?_
      have w_1 : σ 0 (8 + 5 * o) = 4 := Int32.toInt_inj.mp (by rw [w_1]; rfl)
      refine r_aload_n (pc := 67) C 1 dX6_frays_67 rfl rfl ?_
      refine mg_s (pc := 68) C fl_RX6_7 dX6_frays_68 ?_
      refine r_iconst (pc := 71) C 1 dX6_frays_71 (by decide) ?_
      refine al_s (pc := 72) C 1 (rfl) (by omega) dX6_frays_72 (σ 0 1) rfl ?_
      refine r_iconst (pc := 73) C 2 dX6_frays_73 (by decide) ?_
      refine r_irem (pc := 74) C dX6_frays_74 (by decide) ?_
      refine r_if_ne (pc := 75) C 84 dX6_frays_75 (by decide) (fun c_2 => ?_) (fun c_2 => ?_)
      · skip
        refine r_iconst (pc := 84) C 0 dX6_frays_84 (by decide) ?_
        exact r_iret (pc := 85) C hr hlk dX6_frays_85 rfl (by simp [fraysF, *]) rfl
      · skip
        refine r_iconst (pc := 78) C 2 dX6_frays_78 (by decide) ?_
        refine r_iload_n (pc := 79) C 0 dX6_frays_79 rfl rfl ?_
        refine r_imul (pc := 80) C dX6_frays_80 ?_
        refine r_goto (pc := 81) C 85 dX6_frays_81 (by decide) ?_
        exact r_iret (pc := 85) C hr hlk dX6_frays_85 rfl (by simp [fraysF, *]) rfl
    · skip
      refine r_tableIn (pc := 13) C 35 86 dX6_frays_13 (by rw [w_1]; decide) (by rw [w_1]; decide) (by rw [w_1]; rfl) (by decide) ?_
      have w_1 : σ 0 (8 + 5 * o) = 5 := Int32.toInt_inj.mp (by rw [w_1]; rfl)
      refine r_iload_n (pc := 86) C 0 dX6_frays_86 rfl rfl ?_
      refine r_bipush (pc := 87) C 9 dX6_frays_87 (by decide) ?_
      refine r_iadd (pc := 89) C dX6_frays_89 ?_
      exact r_iret (pc := 90) C hr hlk dX6_frays_90 rfl (by simp [fraysF, *]) rfl
theorem t_X6_frays' (l : Launch) (ad : Nat → Nat) (D : va_G) (cs : Nat → ClassId) (h : Nat → Nat) (σ : Nat → Nat → Int32) (pre post : va_W) (f0_ : Nat → Int32) (e0_ : σ 0 = f0_) (n : Nat) (o : Nat) (hn : n ≤ 8) (ho : o < n) : CTi l yX6_frays cX6_frays 3 .int ({ frames := 1, cells := 0, slots := 0, locals := 22 }) ad D (tysW cs) (pre ++ (wM cs h σ ++ post)) [.ref (h 0), .int (nI o)] (fraysF f0_ o) (pre ++ (wM cs h σ ++ post)) := by
  subst e0_
  exact t_X6_frays l ad D cs h σ pre post n o hn ho
