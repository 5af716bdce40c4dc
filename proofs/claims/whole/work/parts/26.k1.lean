theorem dX5_isWithin_0 : decode cX5_isWithin 0 = .ok (.iload_n 0, 1) := by decide +kernel
theorem dX5_isWithin_1 : decode cX5_isWithin 1 = .ok (.iload_n 1, 1) := by decide +kernel
theorem dX5_isWithin_2 : decode cX5_isWithin 2 = .ok (.if_icmp .lt 12, 3) := by decide +kernel
theorem dX5_isWithin_5 : decode cX5_isWithin 5 = .ok (.iload_n 0, 1) := by decide +kernel
theorem dX5_isWithin_6 : decode cX5_isWithin 6 = .ok (.iload_n 2, 1) := by decide +kernel
theorem dX5_isWithin_7 : decode cX5_isWithin 7 = .ok (.if_icmp .gt 7, 3) := by decide +kernel
theorem dX5_isWithin_10 : decode cX5_isWithin 10 = .ok (.iconst 1, 1) := by decide +kernel
theorem dX5_isWithin_11 : decode cX5_isWithin 11 = .ok (.goto 4, 3) := by decide +kernel
theorem dX5_isWithin_14 : decode cX5_isWithin 14 = .ok (.iconst 0, 1) := by decide +kernel
theorem dX5_isWithin_15 : decode cX5_isWithin 15 = .ok (.ireturn, 1) := by decide +kernel
set_option maxHeartbeats 400000 in
set_option maxRecDepth 20000 in
theorem t_X5_isWithin (l : Launch) (ad : Nat → Nat) (D : va_G) (tys : List (ClassId × FieldType)) (bk : va_W) (pre post : va_W) (x lo hi : Int32)  : CTi l yX5_isWithin cX5_isWithin 3 .boolean ({ frames := 0, cells := 0, slots := 0, locals := 0 }) ad D tys (pre ++ (bk ++ post)) [.int x, .int lo, .int hi] (bI (inB x lo hi = true)) (pre ++ (bk ++ post)) := by
  refine CTi.of (lv0 := [(0, .int x), (1, .int lo), (2, .int hi)]) (by decide) rfl (Nat.le_of_ble_eq_true rfl) (fun p e s m args below meth c A C hr hlk => ?_)
  have C : Cx p s m args c cX5_isWithin 3 RX5 ad D tys A := C
  refine r_iload_n (pc := 0) C 0 dX5_isWithin_0 rfl rfl ?_
  refine r_iload_n (pc := 1) C 1 dX5_isWithin_1 rfl rfl ?_
  refine r_icmp_lt (pc := 2) C 14 dX5_isWithin_2 (by decide) (fun c_1 => ?_) (fun c_1 => ?_)
  · skip
    refine r_iconst (pc := 14) C 0 dX5_isWithin_14 (by decide) ?_
    exact r_iret (pc := 15) C hr hlk dX5_isWithin_15 rfl (by simp_all [bI, inB]) rfl
  · skip
    refine r_iload_n (pc := 5) C 0 dX5_isWithin_5 rfl rfl ?_
    refine r_iload_n (pc := 6) C 2 dX5_isWithin_6 rfl rfl ?_
    refine r_icmp_gt (pc := 7) C 14 dX5_isWithin_7 (by decide) (fun c_2 => ?_) (fun c_2 => ?_)
    · skip
      refine r_iconst (pc := 14) C 0 dX5_isWithin_14 (by decide) ?_
      exact r_iret (pc := 15) C hr hlk dX5_isWithin_15 rfl (by simp_all [bI, inB]) rfl
    · skip
      refine r_iconst (pc := 10) C 1 dX5_isWithin_10 (by decide) ?_
      refine r_goto (pc := 11) C 15 dX5_isWithin_11 (by decide) ?_
      exact r_iret (pc := 15) C hr hlk dX5_isWithin_15 rfl (by simp_all [bI, inB]) rfl
theorem dX5_held_0 : decode cX5_held 0 = .ok (.iconst 0, 1) := by decide +kernel
theorem dX5_held_1 : decode cX5_held 1 = .ok (.iload_n 1, 1) := by decide +kernel
theorem dX5_held_2 : decode cX5_held 2 = .ok (.iload_n 0, 1) := by decide +kernel
theorem dX5_held_3 : decode cX5_held 3 = .ok (.invokestatic 301, 3) := by decide +kernel
theorem dX5_held_6 : decode cX5_held 6 = .ok (.invokestatic 306, 3) := by decide +kernel
theorem dX5_held_9 : decode cX5_held 9 = .ok (.ireturn, 1) := by decide +kernel
set_option maxHeartbeats 400000 in
set_option maxRecDepth 20000 in
theorem t_X5_held (l : Launch) (ad : Nat → Nat) (D : va_G) (tys : List (ClassId × FieldType)) (bk : va_W) (pre post : va_W) (v w : Int32)  : CTi l yX5_held cX5_held 2 .int ({ frames := 1, cells := 0, slots := 0, locals := 21 }) ad D tys (pre ++ (bk ++ post)) [.int v, .int w] (mxI 0 (mnI w v)) (pre ++ (bk ++ post)) := by
  refine CTi.of (lv0 := [(0, .int v), (1, .int w)]) (by decide) rfl (Nat.le_of_ble_eq_true rfl) (fun p e s m args below meth c A C hr hlk => ?_)
  have C : Cx p s m args c cX5_held 2 RX5 ad D tys A := C
  refine r_iconst (pc := 0) C 0 dX5_held_0 (by decide) ?_
  refine r_iload_n (pc := 1) C 1 dX5_held_1 rfl rfl ?_
  refine r_iload_n (pc := 2) C 0 dX5_held_2 rfl rfl ?_
  refine r_mmin (pc := 3) C ml_RX5_301' (Nat.le_of_ble_eq_true rfl) (Nat.le_of_ble_eq_true rfl) (Nat.le_of_ble_eq_true rfl) dX5_held_3 ?_
  refine r_eqi (y := mnI w v) (mmin_mn _ _) ?_
  refine r_mmax (pc := 6) C ml_RX5_306' (Nat.le_of_ble_eq_true rfl) (Nat.le_of_ble_eq_true rfl) (Nat.le_of_ble_eq_true rfl) dX5_held_6 ?_
  refine r_eqi (y := mxI 0 (mnI w v)) (mmax_mx _ _) ?_
  exact r_iret (pc := 9) C hr hlk dX5_held_9 rfl rfl rfl
theorem dX0_exists_0 : decode cX0_exists 0 = .ok (.iload_n 1, 1) := by decide +kernel
theorem dX0_exists_1 : decode cX0_exists 1 = .ok (.iconst 0, 1) := by decide +kernel
theorem dX0_exists_2 : decode cX0_exists 2 = .ok (.aload_n 0, 1) := by decide +kernel
theorem dX0_exists_3 : decode cX0_exists 3 = .ok (.getfield 38, 3) := by decide +kernel
theorem dX0_exists_6 : decode cX0_exists 6 = .ok (.iconst 1, 1) := by decide +kernel
theorem dX0_exists_7 : decode cX0_exists 7 = .ok (.isub, 1) := by decide +kernel
theorem dX0_exists_8 : decode cX0_exists 8 = .ok (.invokestatic 47, 3) := by decide +kernel
theorem dX0_exists_11 : decode cX0_exists 11 = .ok (.ireturn, 1) := by decide +kernel
set_option maxHeartbeats 400000 in
set_option maxRecDepth 20000 in
theorem t_X0_exists (l : Launch) (ad : Nat → Nat) (D : va_G) (cs : Nat → ClassId) (g : Nat → Nat) (σ : Nat → Nat → Int32) (pre post : va_W) (n : Nat) (o : Int32) (hN : σ 0 0 = nI n) (hn : n ≤ 8) : CTi l yX0_exists cX0_exists 2 .boolean ({ frames := 1, cells := 0, slots := 0, locals := 22 }) ad D (tysW cs) (pre ++ (wK cs g (σ 0) ++ post)) [.ref (g 0), .int o] (bI (oneB n o = true)) (pre ++ (wK cs g (σ 0) ++ post)) := by
  refine CTi.of (lv0 := [(0, .ref (g 0)), (1, .int o)]) (by decide) rfl (Nat.le_of_ble_eq_true rfl) (fun p e s m args below meth c A C hr hlk => ?_)
  have C : Cx p s m args c cX0_exists 2 RX0 ad D (tysW cs) A := C
  refine r_iload_n (pc := 0) C 1 dX0_exists_0 rfl rfl ?_
  refine r_iconst (pc := 1) C 0 dX0_exists_1 (by decide) ?_
  refine r_aload_n (pc := 2) C 0 dX0_exists_2 rfl rfl ?_
  refine kg_count (pc := 3) C fl_RX0_38 dX0_exists_3 (σ 0 0) rfl ?_
  refine r_eqi (y := nI n) (hN) ?_
  refine r_iconst (pc := 6) C 1 dX0_exists_6 (by decide) ?_
  refine r_isub (pc := 7) C dX0_exists_7 ?_
  refine r_eqi (y := nI n - 1) (rfl) ?_
  refine rc_Ni (pc := 8) C (t_X5_isWithin l ad D (tysW cs) (wK cs g (σ 0)) pre post  o (0 : Int32) (nI n - 1) ) ms_X5_isWithin (C_nw C).2.2.2.2.2.2.1 rfl ⟨Nat.le_of_ble_eq_true rfl, Nat.le_of_ble_eq_true rfl⟩ ⟨rfl, rfl⟩ rfl rfl rfl (Nat.le_of_ble_eq_true rfl) dX0_exists_8 ?_
  refine r_eqi (y := bI (oneB n o = true)) (by rw [inB_one (by omega)]) ?_
  exact r_iret (pc := 11) C hr hlk dX0_exists_11 bI_nar (by first | rfl | simp [bI, *]) rfl
theorem t_X0_exists' (l : Launch) (ad : Nat → Nat) (D : va_G) (cs : Nat → ClassId) (g : Nat → Nat) (σ : Nat → Nat → Int32) (pre post : va_W) (f0_ : Nat → Int32) (e0_ : σ 0 = f0_) (n : Nat) (o : Int32) (hN : f0_ 0 = nI n) (hn : n ≤ 8) : CTi l yX0_exists cX0_exists 2 .boolean ({ frames := 1, cells := 0, slots := 0, locals := 22 }) ad D (tysW cs) (pre ++ (wK cs g f0_ ++ post)) [.ref (g 0), .int o] (bI (oneB n o = true)) (pre ++ (wK cs g f0_ ++ post)) := by
  subst e0_
  exact t_X0_exists l ad D cs g σ pre post n o hN hn
theorem dX0_isOnSteps_0 : decode cX0_isOnSteps 0 = .ok (.aload_n 0, 1) := by decide +kernel
theorem dX0_isOnSteps_1 : decode cX0_isOnSteps 1 = .ok (.getfield 25, 3) := by decide +kernel
theorem dX0_isOnSteps_4 : decode cX0_isOnSteps 4 = .ok (.iconst 3, 1) := by decide +kernel
theorem dX0_isOnSteps_5 : decode cX0_isOnSteps 5 = .ok (.aaload, 1) := by decide +kernel
theorem dX0_isOnSteps_6 : decode cX0_isOnSteps 6 = .ok (.iload_n 1, 1) := by decide +kernel
theorem dX0_isOnSteps_7 : decode cX0_isOnSteps 7 = .ok (.iaload, 1) := by decide +kernel
theorem dX0_isOnSteps_8 : decode cX0_isOnSteps 8 = .ok (.ifCond .ne 7, 3) := by decide +kernel
theorem dX0_isOnSteps_11 : decode cX0_isOnSteps 11 = .ok (.iconst 1, 1) := by decide +kernel
theorem dX0_isOnSteps_12 : decode cX0_isOnSteps 12 = .ok (.goto 4, 3) := by decide +kernel
theorem dX0_isOnSteps_15 : decode cX0_isOnSteps 15 = .ok (.iconst 0, 1) := by decide +kernel
theorem dX0_isOnSteps_16 : decode cX0_isOnSteps 16 = .ok (.ireturn, 1) := by decide +kernel
set_option maxHeartbeats 400000 in
set_option maxRecDepth 20000 in
theorem t_X0_isOnSteps (l : Launch) (ad : Nat → Nat) (D : va_G) (cs : Nat → ClassId) (g : Nat → Nat) (σ : Nat → Nat → Int32) (pre post : va_W) (n : Nat) (o : Nat) (hN : σ 0 0 = nI n) (hn : n ≤ 8) (ho : o < n) : CTi l yX0_isOnSteps cX0_isOnSteps 2 .boolean ({ frames := 0, cells := 0, slots := 0, locals := 0 }) ad D (tysW cs) (pre ++ (wK cs g (σ 0) ++ post)) [.ref (g 0), .int (nI o)] (bI (σ 0 (8 + 5 * o + 3) = 0)) (pre ++ (wK cs g (σ 0) ++ post)) := by
  refine CTi.of (lv0 := [(0, .ref (g 0)), (1, .int (nI o))]) (by decide) rfl (Nat.le_of_ble_eq_true rfl) (fun p e s m args below meth c A C hr hlk => ?_)
  have C : Cx p s m args c cX0_isOnSteps 2 RX0 ad D (tysW cs) A := C
  refine r_aload_n (pc := 0) C 0 dX0_isOnSteps_0 rfl rfl ?_
  refine kg_has (pc := 1) C fl_RX0_25 dX0_isOnSteps_1 ?_
  refine r_iconst (pc := 4) C 3 dX0_isOnSteps_4 (by decide) ?_
  refine ka_has (pc := 5) C 3 (rfl) (by omega) dX0_isOnSteps_5 ?_
  refine r_iload_n (pc := 6) C 1 dX0_isOnSteps_6 rfl rfl ?_
  refine kl_row (pc := 7) C 3 (by decide) o (rfl) (by omega) dX0_isOnSteps_7 (σ 0 (8 + 5 * o + 3)) rfl ?_
  refine r_if_ne (pc := 8) C 15 dX0_isOnSteps_8 (by decide) (fun c_1 => ?_) (fun c_1 => ?_)
  · skip
    refine r_iconst (pc := 15) C 0 dX0_isOnSteps_15 (by decide) ?_
    exact r_iret (pc := 16) C hr hlk dX0_isOnSteps_16 rfl (by simp [bI, *]) rfl
  · skip
    refine r_iconst (pc := 11) C 1 dX0_isOnSteps_11 (by decide) ?_
    refine r_goto (pc := 12) C 16 dX0_isOnSteps_12 (by decide) ?_
    exact r_iret (pc := 16) C hr hlk dX0_isOnSteps_16 rfl (by simp [bI, *]) rfl
theorem t_X0_isOnSteps' (l : Launch) (ad : Nat → Nat) (D : va_G) (cs : Nat → ClassId) (g : Nat → Nat) (σ : Nat → Nat → Int32) (pre post : va_W) (f0_ : Nat → Int32) (e0_ : σ 0 = f0_) (n : Nat) (o : Nat) (hN : f0_ 0 = nI n) (hn : n ≤ 8) (ho : o < n) : CTi l yX0_isOnSteps cX0_isOnSteps 2 .boolean ({ frames := 0, cells := 0, slots := 0, locals := 0 }) ad D (tysW cs) (pre ++ (wK cs g f0_ ++ post)) [.ref (g 0), .int (nI o)] (bI (f0_ (8 + 5 * o + 3) = 0)) (pre ++ (wK cs g f0_ ++ post)) := by
  subst e0_
  exact t_X0_isOnSteps l ad D cs g σ pre post n o hN hn ho
theorem dX0_isFull_0 : decode cX0_isFull 0 = .ok (.aload_n 0, 1) := by decide +kernel
theorem dX0_isFull_1 : decode cX0_isFull 1 = .ok (.getfield 38, 3) := by decide +kernel
theorem dX0_isFull_4 : decode cX0_isFull 4 = .ok (.bipush 8, 2) := by decide +kernel
theorem dX0_isFull_6 : decode cX0_isFull 6 = .ok (.if_icmp .lt 7, 3) := by decide +kernel
theorem dX0_isFull_9 : decode cX0_isFull 9 = .ok (.iconst 1, 1) := by decide +kernel
theorem dX0_isFull_10 : decode cX0_isFull 10 = .ok (.goto 4, 3) := by decide +kernel
theorem dX0_isFull_13 : decode cX0_isFull 13 = .ok (.iconst 0, 1) := by decide +kernel
theorem dX0_isFull_14 : decode cX0_isFull 14 = .ok (.ireturn, 1) := by decide +kernel
set_option maxHeartbeats 400000 in
set_option maxRecDepth 20000 in
theorem t_X0_isFull (l : Launch) (ad : Nat → Nat) (D : va_G) (cs : Nat → ClassId) (g : Nat → Nat) (σ : Nat → Nat → Int32) (pre post : va_W) (n : Nat) (hN : σ 0 0 = nI n) (hn : n ≤ 8) : CTi l yX0_isFull cX0_isFull 1 .boolean ({ frames := 0, cells := 0, slots := 0, locals := 0 }) ad D (tysW cs) (pre ++ (wK cs g (σ 0) ++ post)) [.ref (g 0)] (bI (n = 8)) (pre ++ (wK cs g (σ 0) ++ post)) := by
  refine CTi.of (lv0 := [(0, .ref (g 0))]) (by decide) rfl (Nat.le_of_ble_eq_true rfl) (fun p e s m args below meth c A C hr hlk => ?_)
  have C : Cx p s m args c cX0_isFull 1 RX0 ad D (tysW cs) A := C
  refine r_aload_n (pc := 0) C 0 dX0_isFull_0 rfl rfl ?_
  refine kg_count (pc := 1) C fl_RX0_38 dX0_isFull_1 (σ 0 0) rfl ?_
  refine r_eqi (y := nI n) (hN) ?_
  refine r_bipush (pc := 4) C 8 dX0_isFull_4 (by decide) ?_
  refine r_icmp_lt (pc := 6) C 13 dX0_isFull_6 (by decide) (fun c_1 => ?_) (fun c_1 => ?_)
  · skip
    have c_1 := nIc_lt_t (a := n) (b := 8) (by omega) (by omega) c_1
    refine r_iconst (pc := 13) C 0 dX0_isFull_13 (by decide) ?_
    exact r_iret (pc := 14) C hr hlk dX0_isFull_14 rfl (by first | exact bI_t (by omega) | exact bI_f (by omega)) rfl
  · skip
    have c_1 := nIc_lt_f (a := n) (b := 8) (by omega) (by omega) c_1
    refine r_iconst (pc := 9) C 1 dX0_isFull_9 (by decide) ?_
    refine r_goto (pc := 10) C 14 dX0_isFull_10 (by decide) ?_
    exact r_iret (pc := 14) C hr hlk dX0_isFull_14 rfl (by first | exact bI_t (by omega) | exact bI_f (by omega)) rfl
theorem t_X0_isFull' (l : Launch) (ad : Nat → Nat) (D : va_G) (cs : Nat → ClassId) (g : Nat → Nat) (σ : Nat → Nat → Int32) (pre post : va_W) (f0_ : Nat → Int32) (e0_ : σ 0 = f0_) (n : Nat) (hN : f0_ 0 = nI n) (hn : n ≤ 8) : CTi l yX0_isFull cX0_isFull 1 .boolean ({ frames := 0, cells := 0, slots := 0, locals := 0 }) ad D (tysW cs) (pre ++ (wK cs g f0_ ++ post)) [.ref (g 0)] (bI (n = 8)) (pre ++ (wK cs g f0_ ++ post)) := by
  subst e0_
  exact t_X0_isFull l ad D cs g σ pre post n hN hn
theorem dX0_sumOf_0 : decode cX0_sumOf 0 = .ok (.iconst 0, 1) := by decide +kernel
theorem dX0_sumOf_1 : decode cX0_sumOf 1 = .ok (.istore_n 2, 1) := by decide +kernel
theorem dX0_sumOf_2 : decode cX0_sumOf 2 = .ok (.iconst 0, 1) := by decide +kernel
theorem dX0_sumOf_3 : decode cX0_sumOf 3 = .ok (.istore_n 3, 1) := by decide +kernel
theorem dX0_sumOf_4 : decode cX0_sumOf 4 = .ok (.iload_n 3, 1) := by decide +kernel
theorem dX0_sumOf_5 : decode cX0_sumOf 5 = .ok (.aload_n 0, 1) := by decide +kernel
theorem dX0_sumOf_6 : decode cX0_sumOf 6 = .ok (.getfield 38, 3) := by decide +kernel
theorem dX0_sumOf_9 : decode cX0_sumOf 9 = .ok (.if_icmp .ge 20, 3) := by decide +kernel
theorem dX0_sumOf_12 : decode cX0_sumOf 12 = .ok (.iload_n 2, 1) := by decide +kernel
theorem dX0_sumOf_13 : decode cX0_sumOf 13 = .ok (.aload_n 0, 1) := by decide +kernel
theorem dX0_sumOf_14 : decode cX0_sumOf 14 = .ok (.getfield 25, 3) := by decide +kernel
theorem dX0_sumOf_17 : decode cX0_sumOf 17 = .ok (.iload_n 1, 1) := by decide +kernel
theorem dX0_sumOf_18 : decode cX0_sumOf 18 = .ok (.aaload, 1) := by decide +kernel
theorem dX0_sumOf_19 : decode cX0_sumOf 19 = .ok (.iload_n 3, 1) := by decide +kernel
theorem dX0_sumOf_20 : decode cX0_sumOf 20 = .ok (.iaload, 1) := by decide +kernel
theorem dX0_sumOf_21 : decode cX0_sumOf 21 = .ok (.iadd, 1) := by decide +kernel
theorem dX0_sumOf_22 : decode cX0_sumOf 22 = .ok (.istore_n 2, 1) := by decide +kernel
theorem dX0_sumOf_23 : decode cX0_sumOf 23 = .ok (.iinc 3 1, 3) := by decide +kernel
theorem dX0_sumOf_26 : decode cX0_sumOf 26 = .ok (.goto (-22), 3) := by decide +kernel
theorem dX0_sumOf_29 : decode cX0_sumOf 29 = .ok (.iload_n 2, 1) := by decide +kernel
theorem dX0_sumOf_30 : decode cX0_sumOf 30 = .ok (.ireturn, 1) := by decide +kernel
set_option maxHeartbeats 400000 in
set_option maxRecDepth 20000 in
theorem t_X0_sumOf (l : Launch) (ad : Nat → Nat) (D : va_G) (cs : Nat → ClassId) (g : Nat → Nat) (σ : Nat → Nat → Int32) (pre post : va_W) (n : Nat) (k : Nat) (hN : σ 0 0 = nI n) (hn : n ≤ 8) (hk : k < 5) : CTi l yX0_sumOf cX0_sumOf 4 .int ({ frames := 0, cells := 0, slots := 0, locals := 0 }) ad D (tysW cs) (pre ++ (wK cs g (σ 0) ++ post)) [.ref (g 0), .int (nI k)] (sumF (σ 0) k n) (pre ++ (wK cs g (σ 0) ++ post)) := by
  refine CTi.of (lv0 := [(0, .ref (g 0)), (1, .int (nI k))]) (by decide) rfl (Nat.le_of_ble_eq_true rfl) (fun p e s m args below meth c A C hr hlk => ?_)
  have C : Cx p s m args c cX0_sumOf 4 RX0 ad D (tysW cs) A := C
  refine r_iconst (pc := 0) C 0 dX0_sumOf_0 (by decide) ?_
  refine r_istore_n (pc := 1) C [(2, .int 0), (0, .ref (g 0)), (1, .int (nI k))] dX0_sumOf_1 rfl (by decide) rfl ?_
  refine r_iconst (pc := 2) C 0 dX0_sumOf_2 (by decide) ?_
  refine r_istore_n (pc := 3) C [(3, .int 0), (2, .int 0), (0, .ref (g 0)), (1, .int (nI k))] dX0_sumOf_3 rfl (by decide) rfl ?_
  refine r_pick (lv' := [(0, .ref (g 0)), (1, .int (nI k)), (2, .int 0), (3, .int 0)]) [2, 3, 1, 0] rfl ?_
  refine r_lv (lv' := [(0, .ref (g 0)), (1, .int (nI k)), (2, .int (sumF (σ 0) k 0)), (3, .int 0)]) (rfl) ?_
  refine r_loop (blkf := fun i => wK cs g (σ 0)) (lvf := fun i => [(0, .ref (g 0)), (1, .int (nI k)), (2, .int (sumF (σ 0) k i)), (3, .int (nI i))]) (fun i => True) n 0 (by omega) (trivial) (fun i h_i _ ih_4 => ?_)
  show VX p l e _ s m args below meth c _ D A 4 pre (wK cs g (σ 0)) post 4 [(0, .ref (g 0)), (1, .int (nI k)), (2, .int (sumF (σ 0) k i)), (3, .int (nI i))] []
  refine r_iload_n (pc := 4) C 3 dX0_sumOf_4 rfl rfl ?_
  refine r_aload_n (pc := 5) C 0 dX0_sumOf_5 rfl rfl ?_
  refine kg_count (pc := 6) C fl_RX0_38 dX0_sumOf_6 (σ 0 0) rfl ?_
  refine r_eqi (y := nI n) (hN) ?_
  refine r_icmp_ge (pc := 9) C 29 dX0_sumOf_9 (by decide) (fun c_1 => ?_) (fun c_1 => ?_)
  · skip
    have c_1 := nIc_ge_t (a := i) (b := n) (by omega) (by omega) c_1
    obtain rfl : n = i := by omega
    refine r_iload_n (pc := 29) C 2 dX0_sumOf_29 rfl rfl ?_
    exact r_iret (pc := 30) C hr hlk dX0_sumOf_30 rfl rfl rfl
  · skip
    have c_1 := nIc_ge_f (a := i) (b := n) (by omega) (by omega) c_1
    refine r_iload_n (pc := 12) C 2 dX0_sumOf_12 rfl rfl ?_
    refine r_aload_n (pc := 13) C 0 dX0_sumOf_13 rfl rfl ?_
    refine kg_has (pc := 14) C fl_RX0_25 dX0_sumOf_14 ?_
    refine r_iload_n (pc := 17) C 1 dX0_sumOf_17 rfl rfl ?_
    refine ka_has (pc := 18) C k (rfl) (by omega) dX0_sumOf_18 ?_
    refine r_iload_n (pc := 19) C 3 dX0_sumOf_19 rfl rfl ?_
    refine kl_row (pc := 20) C k (by omega) i (rfl) (by omega) dX0_sumOf_20 (σ 0 (8 + 5 * i + k)) rfl ?_
    refine r_iadd (pc := 21) C dX0_sumOf_21 ?_
    refine r_istore_n (pc := 22) C [(2, .int ((sumF (σ 0) k i) + (σ 0 (8 + 5 * i + k)))), (0, .ref (g 0)), (1, .int (nI k)), (3, .int (nI i))] dX0_sumOf_22 rfl (by decide) rfl ?_
    refine r_iinc (pc := 23) C (nI (i + 1)) 3 [(3, .int (nI (i + 1))), (2, .int ((sumF (σ 0) k i) + (σ 0 (8 + 5 * i + k)))), (0, .ref (g 0)), (1, .int (nI k))] dX0_sumOf_23 rfl (nI_1 _) (by decide) rfl ?_
    refine r_goto (pc := 26) C 4 dX0_sumOf_26 (by decide) ?_
    refine r_pick (lv' := [(0, .ref (g 0)), (1, .int (nI k)), (2, .int ((sumF (σ 0) k i) + (σ 0 (8 + 5 * i + k)))), (3, .int (nI (i + 1)))]) [2, 3, 1, 0] rfl ?_
    refine r_lv (lv' := [(0, .ref (g 0)), (1, .int (nI k)), (2, .int (sumF (σ 0) k (i + 1))), (3, .int (nI (i + 1)))]) (rfl) ?_
    exact ih_4 (by omega) (trivial)
theorem t_X0_sumOf' (l : Launch) (ad : Nat → Nat) (D : va_G) (cs : Nat → ClassId) (g : Nat → Nat) (σ : Nat → Nat → Int32) (pre post : va_W) (f0_ : Nat → Int32) (e0_ : σ 0 = f0_) (n : Nat) (k : Nat) (hN : f0_ 0 = nI n) (hn : n ≤ 8) (hk : k < 5) : CTi l yX0_sumOf cX0_sumOf 4 .int ({ frames := 0, cells := 0, slots := 0, locals := 0 }) ad D (tysW cs) (pre ++ (wK cs g f0_ ++ post)) [.ref (g 0), .int (nI k)] (sumF f0_ k n) (pre ++ (wK cs g f0_ ++ post)) := by
  subst e0_
  exact t_X0_sumOf l ad D cs g σ pre post n k hN hn hk
theorem dX0_draw_0 : decode cX0_draw 0 = .ok (.aload_n 0, 1) := by decide +kernel
theorem dX0_draw_1 : decode cX0_draw 1 = .ok (.aload_n 0, 1) := by decide +kernel
theorem dX0_draw_2 : decode cX0_draw 2 = .ok (.getfield 28, 3) := by decide +kernel
theorem dX0_draw_5 : decode cX0_draw 5 = .ok (.ldc 92, 2) := by decide +kernel
theorem dX0_draw_7 : decode cX0_draw 7 = .ok (.imul, 1) := by decide +kernel
theorem dX0_draw_8 : decode cX0_draw 8 = .ok (.sipush 12345, 3) := by decide +kernel
theorem dX0_draw_11 : decode cX0_draw 11 = .ok (.iadd, 1) := by decide +kernel
theorem dX0_draw_12 : decode cX0_draw 12 = .ok (.putfield 28, 3) := by decide +kernel
theorem dX0_draw_15 : decode cX0_draw 15 = .ok (.aload_n 0, 1) := by decide +kernel
theorem dX0_draw_16 : decode cX0_draw 16 = .ok (.getfield 28, 3) := by decide +kernel
theorem dX0_draw_19 : decode cX0_draw 19 = .ok (.bipush 16, 2) := by decide +kernel
theorem dX0_draw_21 : decode cX0_draw 21 = .ok (.iushr, 1) := by decide +kernel
theorem dX0_draw_22 : decode cX0_draw 22 = .ok (.ireturn, 1) := by decide +kernel
set_option maxHeartbeats 400000 in
set_option maxRecDepth 20000 in
theorem t_X0_draw (l : Launch) (ad : Nat → Nat) (D : va_G) (cs : Nat → ClassId) (g : Nat → Nat) (σ : Nat → Nat → Int32) (pre post : va_W) (n : Nat) (hN : σ 0 0 = nI n) (hn : n ≤ 8) : CTi l yX0_draw cX0_draw 1 .int ({ frames := 0, cells := 0, slots := 0, locals := 0 }) ad D (tysW cs) (pre ++ (wK cs g (σ 0) ++ post)) [.ref (g 0)] (nI (drF (σ 0))) (pre ++ (wK cs g (drw (σ 0)) ++ post)) := by
  refine CTi.of (lv0 := [(0, .ref (g 0))]) (by decide) rfl (Nat.le_of_ble_eq_true rfl) (fun p e s m args below meth c A C hr hlk => ?_)
  have C : Cx p s m args c cX0_draw 1 RX0 ad D (tysW cs) A := C
  refine r_aload_n (pc := 0) C 0 dX0_draw_0 rfl rfl ?_
  refine r_aload_n (pc := 1) C 0 dX0_draw_1 rfl rfl ?_
  refine kg_z (pc := 2) C fl_RX0_28 dX0_draw_2 (σ 0 2) rfl ?_
  refine r_ldc (pc := 5) C dX0_draw_5 cn_RX0_92 ?_
  refine r_imul (pc := 7) C dX0_draw_7 ?_
  refine r_sipush (pc := 8) C 12345 dX0_draw_8 (by decide) ?_
  refine r_iadd (pc := 11) C dX0_draw_11 ?_
  refine kp_z (pc := 12) C fl_RX0_28 dX0_draw_12 ?_
  refine r_blk (blk' := wK cs g (drw (σ 0))) (rfl) ?_
  refine r_aload_n (pc := 15) C 0 dX0_draw_15 rfl rfl ?_
  refine kg_z (pc := 16) C fl_RX0_28 dX0_draw_16 (drw (σ 0) 2) rfl ?_
  refine r_bipush (pc := 19) C 16 dX0_draw_19 (by decide) ?_
  refine r_iushr (pc := 21) C dX0_draw_21 ?_
  refine r_eqi (y := nI (drF (σ 0))) (ush16 _) ?_
  exact r_iret (pc := 22) C hr hlk dX0_draw_22 rfl rfl rfl
theorem t_X0_draw' (l : Launch) (ad : Nat → Nat) (D : va_G) (cs : Nat → ClassId) (g : Nat → Nat) (σ : Nat → Nat → Int32) (pre post : va_W) (f0_ : Nat → Int32) (e0_ : σ 0 = f0_) (n : Nat) (hN : f0_ 0 = nI n) (hn : n ≤ 8) : CTi l yX0_draw cX0_draw 1 .int ({ frames := 0, cells := 0, slots := 0, locals := 0 }) ad D (tysW cs) (pre ++ (wK cs g f0_ ++ post)) [.ref (g 0)] (nI (drF f0_)) (pre ++ (wK cs g (drw f0_) ++ post)) := by
  subst e0_
  exact t_X0_draw l ad D cs g σ pre post n hN hn
theorem dX0_setOnSteps_0 : decode cX0_setOnSteps 0 = .ok (.iconst 0, 1) := by decide +kernel
theorem dX0_setOnSteps_1 : decode cX0_setOnSteps 1 = .ok (.istore_n 1, 1) := by decide +kernel
theorem dX0_setOnSteps_2 : decode cX0_setOnSteps 2 = .ok (.iconst 0, 1) := by decide +kernel
theorem dX0_setOnSteps_3 : decode cX0_setOnSteps 3 = .ok (.istore_n 2, 1) := by decide +kernel
theorem dX0_setOnSteps_4 : decode cX0_setOnSteps 4 = .ok (.iload_n 2, 1) := by decide +kernel
theorem dX0_setOnSteps_5 : decode cX0_setOnSteps 5 = .ok (.aload_n 0, 1) := by decide +kernel
theorem dX0_setOnSteps_6 : decode cX0_setOnSteps 6 = .ok (.getfield 38, 3) := by decide +kernel
theorem dX0_setOnSteps_9 : decode cX0_setOnSteps 9 = .ok (.if_icmp .ge 23, 3) := by decide +kernel
theorem dX0_setOnSteps_12 : decode cX0_setOnSteps 12 = .ok (.aload_n 0, 1) := by decide +kernel
theorem dX0_setOnSteps_13 : decode cX0_setOnSteps 13 = .ok (.iload_n 2, 1) := by decide +kernel
theorem dX0_setOnSteps_14 : decode cX0_setOnSteps 14 = .ok (.invokevirtual 93, 3) := by decide +kernel
theorem dX0_setOnSteps_17 : decode cX0_setOnSteps 17 = .ok (.ifCond .eq 9, 3) := by decide +kernel
theorem dX0_setOnSteps_20 : decode cX0_setOnSteps 20 = .ok (.iload_n 1, 1) := by decide +kernel
theorem dX0_setOnSteps_21 : decode cX0_setOnSteps 21 = .ok (.iconst 1, 1) := by decide +kernel
theorem dX0_setOnSteps_22 : decode cX0_setOnSteps 22 = .ok (.iload_n 2, 1) := by decide +kernel
theorem dX0_setOnSteps_23 : decode cX0_setOnSteps 23 = .ok (.ishl, 1) := by decide +kernel
theorem dX0_setOnSteps_24 : decode cX0_setOnSteps 24 = .ok (.ior, 1) := by decide +kernel
theorem dX0_setOnSteps_25 : decode cX0_setOnSteps 25 = .ok (.istore_n 1, 1) := by decide +kernel
theorem dX0_setOnSteps_26 : decode cX0_setOnSteps 26 = .ok (.iinc 2 1, 3) := by decide +kernel
theorem dX0_setOnSteps_29 : decode cX0_setOnSteps 29 = .ok (.goto (-25), 3) := by decide +kernel
theorem dX0_setOnSteps_32 : decode cX0_setOnSteps 32 = .ok (.iload_n 1, 1) := by decide +kernel
theorem dX0_setOnSteps_33 : decode cX0_setOnSteps 33 = .ok (.ireturn, 1) := by decide +kernel
set_option maxHeartbeats 400000 in
set_option maxRecDepth 20000 in
theorem t_X0_setOnSteps (l : Launch) (ad : Nat → Nat) (D : va_G) (cs : Nat → ClassId) (g : Nat → Nat) (σ : Nat → Nat → Int32) (pre post : va_W) (n : Nat) (hN : σ 0 0 = nI n) (hn : n ≤ 8) : CTi l yX0_setOnSteps cX0_setOnSteps 3 .int ({ frames := 1, cells := 0, slots := 0, locals := 21 }) ad D (tysW cs) (pre ++ (wK cs g (σ 0) ++ post)) [.ref (g 0)] (onF (σ 0) n) (pre ++ (wK cs g (σ 0) ++ post)) := by
  refine CTi.of (lv0 := [(0, .ref (g 0))]) (by decide) rfl (Nat.le_of_ble_eq_true rfl) (fun p e s m args below meth c A C hr hlk => ?_)
  have C : Cx p s m args c cX0_setOnSteps 3 RX0 ad D (tysW cs) A := C
  refine r_iconst (pc := 0) C 0 dX0_setOnSteps_0 (by decide) ?_
  refine r_istore_n (pc := 1) C [(1, .int 0), (0, .ref (g 0))] dX0_setOnSteps_1 rfl (by decide) rfl ?_
  refine r_iconst (pc := 2) C 0 dX0_setOnSteps_2 (by decide) ?_
  refine r_istore_n (pc := 3) C [(2, .int 0), (1, .int 0), (0, .ref (g 0))] dX0_setOnSteps_3 rfl (by decide) rfl ?_
  refine r_pick (lv' := [(0, .ref (g 0)), (1, .int 0), (2, .int 0)]) [2, 1, 0] rfl ?_
  refine r_lv (lv' := [(0, .ref (g 0)), (1, .int (onF (σ 0) 0)), (2, .int 0)]) (rfl) ?_
  refine r_loop (blkf := fun i => wK cs g (σ 0)) (lvf := fun i => [(0, .ref (g 0)), (1, .int (onF (σ 0) i)), (2, .int (nI i))]) (fun i => True) n 0 (by omega) (trivial) (fun i h_i _ ih_4 => ?_)
  show VX p l e _ s m args below meth c _ D A 3 pre (wK cs g (σ 0)) post 4 [(0, .ref (g 0)), (1, .int (onF (σ 0) i)), (2, .int (nI i))] []
  refine r_iload_n (pc := 4) C 2 dX0_setOnSteps_4 rfl rfl ?_
  refine r_aload_n (pc := 5) C 0 dX0_setOnSteps_5 rfl rfl ?_
  refine kg_count (pc := 6) C fl_RX0_38 dX0_setOnSteps_6 (σ 0 0) rfl ?_
  refine r_eqi (y := nI n) (hN) ?_
  refine r_icmp_ge (pc := 9) C 32 dX0_setOnSteps_9 (by decide) (fun c_1 => ?_) (fun c_1 => ?_)
  · skip
    have c_1 := nIc_ge_t (a := i) (b := n) (by omega) (by omega) c_1
    obtain rfl : n = i := by omega
    refine r_iload_n (pc := 32) C 1 dX0_setOnSteps_32 rfl rfl ?_
    exact r_iret (pc := 33) C hr hlk dX0_setOnSteps_33 rfl rfl rfl
  · skip
    have c_1 := nIc_ge_f (a := i) (b := n) (by omega) (by omega) c_1
    refine r_aload_n (pc := 12) C 0 dX0_setOnSteps_12 rfl rfl ?_
    refine r_iload_n (pc := 13) C 2 dX0_setOnSteps_13 rfl rfl ?_
    refine rc_Vi (pc := 14) C (t_X0_isOnSteps' l ad D cs g (fun _ => σ 0) pre post (σ 0) (rfl) n i hN hn (by omega)) mv_X0_isOnSteps ml_RX0_93 rfl ⟨Nat.le_of_ble_eq_true rfl, Nat.le_of_ble_eq_true rfl⟩ ⟨rfl, rfl⟩ (q0 := 0) rfl rfl rfl rfl rfl rfl (Nat.le_of_ble_eq_true rfl) dX0_setOnSteps_14 ?_
    refine r_if_eq (pc := 17) C 26 dX0_setOnSteps_17 (by decide) (fun c_2 => ?_) (fun c_2 => ?_)
    · skip
      have c_2 := bI_0.mp c_2
      refine r_iinc (pc := 26) C (nI (i + 1)) 2 [(2, .int (nI (i + 1))), (0, .ref (g 0)), (1, .int (onF (σ 0) i))] dX0_setOnSteps_26 rfl (nI_1 _) (by decide) rfl ?_
      refine r_goto (pc := 29) C 4 dX0_setOnSteps_29 (by decide) ?_
      refine r_pick (lv' := [(0, .ref (g 0)), (1, .int (onF (σ 0) i)), (2, .int (nI (i + 1)))]) [1, 2, 0] rfl ?_
      refine r_lv (lv' := [(0, .ref (g 0)), (1, .int (onF (σ 0) (i + 1))), (2, .int (nI (i + 1)))]) (lvc rfl (lvc (congrArg Value.int (show (onF (σ 0) i : Int32) = onF (σ 0) (i + 1) from (by simp [onF, bitI, *]))) (lvc rfl rfl))) ?_
      exact ih_4 (by omega) (trivial)
    · skip
      have c_2 := bI_n.mp c_2
      refine r_iload_n (pc := 20) C 1 dX0_setOnSteps_20 rfl rfl ?_
      refine r_iconst (pc := 21) C 1 dX0_setOnSteps_21 (by decide) ?_
      refine r_iload_n (pc := 22) C 2 dX0_setOnSteps_22 rfl rfl ?_
      refine r_ishl (pc := 23) C dX0_setOnSteps_23 ?_
      refine r_ior (pc := 24) C dX0_setOnSteps_24 ?_
      refine r_istore_n (pc := 25) C [(1, .int ((onF (σ 0) i) ||| (1 <<< ((nI i) &&& 31)))), (0, .ref (g 0)), (2, .int (nI i))] dX0_setOnSteps_25 rfl (by decide) rfl ?_
      refine r_iinc (pc := 26) C (nI (i + 1)) 2 [(2, .int (nI (i + 1))), (1, .int ((onF (σ 0) i) ||| (1 <<< ((nI i) &&& 31)))), (0, .ref (g 0))] dX0_setOnSteps_26 rfl (nI_1 _) (by decide) rfl ?_
      refine r_goto (pc := 29) C 4 dX0_setOnSteps_29 (by decide) ?_
      refine r_pick (lv' := [(0, .ref (g 0)), (1, .int ((onF (σ 0) i) ||| (1 <<< ((nI i) &&& 31)))), (2, .int (nI (i + 1)))]) [2, 1, 0] rfl ?_
      refine r_lv (lv' := [(0, .ref (g 0)), (1, .int (onF (σ 0) (i + 1))), (2, .int (nI (i + 1)))]) (lvc rfl (lvc (congrArg Value.int (show ((onF (σ 0) i) ||| (1 <<< ((nI i) &&& 31)) : Int32) = onF (σ 0) (i + 1) from (by simp [onF, bitI, *]))) (lvc rfl rfl))) ?_
      exact ih_4 (by omega) (trivial)
theorem t_X0_setOnSteps' (l : Launch) (ad : Nat → Nat) (D : va_G) (cs : Nat → ClassId) (g : Nat → Nat) (σ : Nat → Nat → Int32) (pre post : va_W) (f0_ : Nat → Int32) (e0_ : σ 0 = f0_) (n : Nat) (hN : f0_ 0 = nI n) (hn : n ≤ 8) : CTi l yX0_setOnSteps cX0_setOnSteps 3 .int ({ frames := 1, cells := 0, slots := 0, locals := 21 }) ad D (tysW cs) (pre ++ (wK cs g f0_ ++ post)) [.ref (g 0)] (onF f0_ n) (pre ++ (wK cs g f0_ ++ post)) := by
  subst e0_
  exact t_X0_setOnSteps l ad D cs g σ pre post n hN hn
theorem dX0_areTwo_0 : decode cX0_areTwo 0 = .ok (.aload_n 0, 1) := by decide +kernel
theorem dX0_areTwo_1 : decode cX0_areTwo 1 = .ok (.iload_n 1, 1) := by decide +kernel
theorem dX0_areTwo_2 : decode cX0_areTwo 2 = .ok (.invokevirtual 51, 3) := by decide +kernel
theorem dX0_areTwo_5 : decode cX0_areTwo 5 = .ok (.ifCond .eq 20, 3) := by decide +kernel
theorem dX0_areTwo_8 : decode cX0_areTwo 8 = .ok (.aload_n 0, 1) := by decide +kernel
theorem dX0_areTwo_9 : decode cX0_areTwo 9 = .ok (.iload_n 2, 1) := by decide +kernel
theorem dX0_areTwo_10 : decode cX0_areTwo 10 = .ok (.invokevirtual 51, 3) := by decide +kernel
theorem dX0_areTwo_13 : decode cX0_areTwo 13 = .ok (.ifCond .eq 12, 3) := by decide +kernel
theorem dX0_areTwo_16 : decode cX0_areTwo 16 = .ok (.iload_n 1, 1) := by decide +kernel
theorem dX0_areTwo_17 : decode cX0_areTwo 17 = .ok (.iload_n 2, 1) := by decide +kernel
theorem dX0_areTwo_18 : decode cX0_areTwo 18 = .ok (.if_icmp .eq 7, 3) := by decide +kernel
theorem dX0_areTwo_21 : decode cX0_areTwo 21 = .ok (.iconst 1, 1) := by decide +kernel
theorem dX0_areTwo_22 : decode cX0_areTwo 22 = .ok (.goto 4, 3) := by decide +kernel
theorem dX0_areTwo_25 : decode cX0_areTwo 25 = .ok (.iconst 0, 1) := by decide +kernel
theorem dX0_areTwo_26 : decode cX0_areTwo 26 = .ok (.ireturn, 1) := by decide +kernel
set_option maxHeartbeats 400000 in
set_option maxRecDepth 20000 in
theorem t_X0_areTwo (l : Launch) (ad : Nat → Nat) (D : va_G) (cs : Nat → ClassId) (g : Nat → Nat) (σ : Nat → Nat → Int32) (pre post : va_W) (n : Nat) (o q : Int32) (hN : σ 0 0 = nI n) (hn : n ≤ 8) : CTi l yX0_areTwo cX0_areTwo 3 .boolean ({ frames := 2, cells := 0, slots := 0, locals := 43 }) ad D (tysW cs) (pre ++ (wK cs g (σ 0) ++ post)) [.ref (g 0), .int o, .int q] (bI (twoB n o q = true)) (pre ++ (wK cs g (σ 0) ++ post)) := by
  refine CTi.of (lv0 := [(0, .ref (g 0)), (1, .int o), (2, .int q)]) (by decide) rfl (Nat.le_of_ble_eq_true rfl) (fun p e s m args below meth c A C hr hlk => ?_)
  have C : Cx p s m args c cX0_areTwo 3 RX0 ad D (tysW cs) A := C
  refine r_aload_n (pc := 0) C 0 dX0_areTwo_0 rfl rfl ?_
  refine r_iload_n (pc := 1) C 1 dX0_areTwo_1 rfl rfl ?_
  refine rc_Vi (pc := 2) C (t_X0_exists' l ad D cs g (fun _ => σ 0) pre post (σ 0) (rfl) n o hN hn) mv_X0_exists ml_RX0_51 rfl ⟨Nat.le_of_ble_eq_true rfl, Nat.le_of_ble_eq_true rfl⟩ ⟨rfl, rfl⟩ (q0 := 0) rfl rfl rfl rfl rfl rfl (Nat.le_of_ble_eq_true rfl) dX0_areTwo_2 ?_
  refine r_if_eq (pc := 5) C 25 dX0_areTwo_5 (by decide) (fun c_1 => ?_) (fun c_1 => ?_)
  · skip
    have c_1 := bI_0.mp c_1
    refine r_iconst (pc := 25) C 0 dX0_areTwo_25 (by decide) ?_
    exact r_iret (pc := 26) C hr hlk dX0_areTwo_26 rfl (by simp_all [bI, twoB]) rfl
  · skip
    have c_1 := bI_n.mp c_1
    refine r_aload_n (pc := 8) C 0 dX0_areTwo_8 rfl rfl ?_
    refine r_iload_n (pc := 9) C 2 dX0_areTwo_9 rfl rfl ?_
    refine rc_Vi (pc := 10) C (t_X0_exists' l ad D cs g (fun _ => σ 0) pre post (σ 0) (rfl) n q hN hn) mv_X0_exists ml_RX0_51 rfl ⟨Nat.le_of_ble_eq_true rfl, Nat.le_of_ble_eq_true rfl⟩ ⟨rfl, rfl⟩ (q0 := 0) rfl rfl rfl rfl rfl rfl (Nat.le_of_ble_eq_true rfl) dX0_areTwo_10 ?_
    refine r_if_eq (pc := 13) C 25 dX0_areTwo_13 (by decide) (fun c_2 => ?_) (fun c_2 => ?_)
    · skip
      have c_2 := bI_0.mp c_2
      refine r_iconst (pc := 25) C 0 dX0_areTwo_25 (by decide) ?_
      exact r_iret (pc := 26) C hr hlk dX0_areTwo_26 rfl (by simp_all [bI, twoB]) rfl
    · skip
      have c_2 := bI_n.mp c_2
      refine r_iload_n (pc := 16) C 1 dX0_areTwo_16 rfl rfl ?_
      refine r_iload_n (pc := 17) C 2 dX0_areTwo_17 rfl rfl ?_
      refine r_icmp_eq (pc := 18) C 25 dX0_areTwo_18 (by decide) (fun c_3 => ?_) (fun c_3 => ?_)
      · skip
        refine r_iconst (pc := 25) C 0 dX0_areTwo_25 (by decide) ?_
        exact r_iret (pc := 26) C hr hlk dX0_areTwo_26 rfl (by simp_all [bI, twoB]) rfl
      · skip
        refine r_iconst (pc := 21) C 1 dX0_areTwo_21 (by decide) ?_
        refine r_goto (pc := 22) C 26 dX0_areTwo_22 (by decide) ?_
        exact r_iret (pc := 26) C hr hlk dX0_areTwo_26 rfl (by simp_all [bI, twoB]) rfl
theorem t_X0_areTwo' (l : Launch) (ad : Nat → Nat) (D : va_G) (cs : Nat → ClassId) (g : Nat → Nat) (σ : Nat → Nat → Int32) (pre post : va_W) (f0_ : Nat → Int32) (e0_ : σ 0 = f0_) (n : Nat) (o q : Int32) (hN : f0_ 0 = nI n) (hn : n ≤ 8) : CTi l yX0_areTwo cX0_areTwo 3 .boolean ({ frames := 2, cells := 0, slots := 0, locals := 43 }) ad D (tysW cs) (pre ++ (wK cs g f0_ ++ post)) [.ref (g 0), .int o, .int q] (bI (twoB n o q = true)) (pre ++ (wK cs g f0_ ++ post)) := by
  subst e0_
  exact t_X0_areTwo l ad D cs g σ pre post n o q hN hn
theorem dX0_wears_0 : decode cX0_wears 0 = .ok (.aload_n 0, 1) := by decide +kernel
theorem dX0_wears_1 : decode cX0_wears 1 = .ok (.getfield 25, 3) := by decide +kernel
theorem dX0_wears_4 : decode cX0_wears 4 = .ok (.iconst 3, 1) := by decide +kernel
theorem dX0_wears_5 : decode cX0_wears 5 = .ok (.aaload, 1) := by decide +kernel
theorem dX0_wears_6 : decode cX0_wears 6 = .ok (.iload_n 1, 1) := by decide +kernel
theorem dX0_wears_7 : decode cX0_wears 7 = .ok (.iaload, 1) := by decide +kernel
theorem dX0_wears_8 : decode cX0_wears 8 = .ok (.istore_n 2, 1) := by decide +kernel
theorem dX0_wears_9 : decode cX0_wears 9 = .ok (.aload_n 0, 1) := by decide +kernel
theorem dX0_wears_10 : decode cX0_wears 10 = .ok (.getfield 25, 3) := by decide +kernel
theorem dX0_wears_13 : decode cX0_wears 13 = .ok (.iconst 0, 1) := by decide +kernel
theorem dX0_wears_14 : decode cX0_wears 14 = .ok (.aaload, 1) := by decide +kernel
theorem dX0_wears_15 : decode cX0_wears 15 = .ok (.iload_n 1, 1) := by decide +kernel
theorem dX0_wears_16 : decode cX0_wears 16 = .ok (.iaload, 1) := by decide +kernel
theorem dX0_wears_17 : decode cX0_wears 17 = .ok (.tableswitch 72 1 5 #[35, 50, 39, 54, 70], 35) := by decide +kernel
theorem dX0_wears_52 : decode cX0_wears 52 = .ok (.iload_n 2, 1) := by decide +kernel
theorem dX0_wears_53 : decode cX0_wears 53 = .ok (.iconst 2, 1) := by decide +kernel
theorem dX0_wears_54 : decode cX0_wears 54 = .ok (.idiv, 1) := by decide +kernel
theorem dX0_wears_55 : decode cX0_wears 55 = .ok (.ireturn, 1) := by decide +kernel
theorem dX0_wears_56 : decode cX0_wears 56 = .ok (.iload_n 2, 1) := by decide +kernel
theorem dX0_wears_57 : decode cX0_wears 57 = .ok (.iconst 2, 1) := by decide +kernel
theorem dX0_wears_58 : decode cX0_wears 58 = .ok (.idiv, 1) := by decide +kernel
theorem dX0_wears_59 : decode cX0_wears 59 = .ok (.aload_n 0, 1) := by decide +kernel
theorem dX0_wears_60 : decode cX0_wears 60 = .ok (.getfield 18, 3) := by decide +kernel
theorem dX0_wears_63 : decode cX0_wears 63 = .ok (.iconst 0, 1) := by decide +kernel
theorem dX0_wears_64 : decode cX0_wears 64 = .ok (.iaload, 1) := by decide +kernel
theorem dX0_wears_65 : decode cX0_wears 65 = .ok (.iadd, 1) := by decide +kernel
theorem dX0_wears_66 : decode cX0_wears 66 = .ok (.ireturn, 1) := by decide +kernel
theorem dX0_wears_67 : decode cX0_wears 67 = .ok (.iload_n 2, 1) := by decide +kernel
theorem dX0_wears_68 : decode cX0_wears 68 = .ok (.iconst 4, 1) := by decide +kernel
theorem dX0_wears_69 : decode cX0_wears 69 = .ok (.idiv, 1) := by decide +kernel
theorem dX0_wears_70 : decode cX0_wears 70 = .ok (.ireturn, 1) := by decide +kernel
theorem dX0_wears_71 : decode cX0_wears 71 = .ok (.iload_n 2, 1) := by decide +kernel
theorem dX0_wears_72 : decode cX0_wears 72 = .ok (.iconst 4, 1) := by decide +kernel
theorem dX0_wears_73 : decode cX0_wears 73 = .ok (.idiv, 1) := by decide +kernel
theorem dX0_wears_74 : decode cX0_wears 74 = .ok (.aload_n 0, 1) := by decide +kernel
theorem dX0_wears_75 : decode cX0_wears 75 = .ok (.getfield 25, 3) := by decide +kernel
theorem dX0_wears_78 : decode cX0_wears 78 = .ok (.iconst 2, 1) := by decide +kernel
theorem dX0_wears_79 : decode cX0_wears 79 = .ok (.aaload, 1) := by decide +kernel
theorem dX0_wears_80 : decode cX0_wears 80 = .ok (.iload_n 1, 1) := by decide +kernel
theorem dX0_wears_81 : decode cX0_wears 81 = .ok (.iaload, 1) := by decide +kernel
theorem dX0_wears_82 : decode cX0_wears 82 = .ok (.bipush 10, 2) := by decide +kernel
theorem dX0_wears_84 : decode cX0_wears 84 = .ok (.idiv, 1) := by decide +kernel
theorem dX0_wears_85 : decode cX0_wears 85 = .ok (.iadd, 1) := by decide +kernel
theorem dX0_wears_86 : decode cX0_wears 86 = .ok (.ireturn, 1) := by decide +kernel
theorem dX0_wears_87 : decode cX0_wears 87 = .ok (.iconst 0, 1) := by decide +kernel
theorem dX0_wears_88 : decode cX0_wears 88 = .ok (.ireturn, 1) := by decide +kernel
theorem dX0_wears_89 : decode cX0_wears 89 = .ok (.iload_n 2, 1) := by decide +kernel
theorem dX0_wears_90 : decode cX0_wears 90 = .ok (.ireturn, 1) := by decide +kernel
set_option maxHeartbeats 400000 in
set_option maxRecDepth 20000 in
theorem t_X0_wears (l : Launch) (ad : Nat → Nat) (D : va_G) (cs : Nat → ClassId) (g : Nat → Nat) (σ : Nat → Nat → Int32) (pre post : va_W) (n : Nat) (o : Nat) (hN : σ 0 0 = nI n) (hn : n ≤ 8) (ho : o < n) (hR : rgM n (σ 0)) : CTi l yX0_wears cX0_wears 3 .int ({ frames := 0, cells := 0, slots := 0, locals := 0 }) ad D (tysW cs) (pre ++ (wK cs g (σ 0) ++ post)) [.ref (g 0), .int (nI o)] (wearsF (σ 0) o) (pre ++ (wK cs g (σ 0) ++ post)) := by
  refine CTi.of (lv0 := [(0, .ref (g 0)), (1, .int (nI o))]) (by decide) rfl (Nat.le_of_ble_eq_true rfl) (fun p e s m args below meth c A C hr hlk => ?_)
  have C : Cx p s m args c cX0_wears 3 RX0 ad D (tysW cs) A := C
  refine r_aload_n (pc := 0) C 0 dX0_wears_0 rfl rfl ?_
  refine kg_has (pc := 1) C fl_RX0_25 dX0_wears_1 ?_
  refine r_iconst (pc := 4) C 3 dX0_wears_4 (by decide) ?_
  refine ka_has (pc := 5) C 3 (rfl) (by omega) dX0_wears_5 ?_
  refine r_iload_n (pc := 6) C 1 dX0_wears_6 rfl rfl ?_
  refine kl_row (pc := 7) C 3 (by decide) o (rfl) (by omega) dX0_wears_7 (σ 0 (8 + 5 * o + 3)) rfl ?_
  refine r_istore_n (pc := 8) C [(2, .int (σ 0 (8 + 5 * o + 3))), (0, .ref (g 0)), (1, .int (nI o))] dX0_wears_8 rfl (by decide) rfl ?_
  refine r_aload_n (pc := 9) C 1 dX0_wears_9 rfl rfl ?_
  refine kg_has (pc := 10) C fl_RX0_25 dX0_wears_10 ?_
  refine r_iconst (pc := 13) C 0 dX0_wears_13 (by decide) ?_
  refine ka_has (pc := 14) C 0 (rfl) (by omega) dX0_wears_14 ?_
  refine r_iload_n (pc := 15) C 2 dX0_wears_15 rfl rfl ?_
  refine kl_row (pc := 16) C 0 (by decide) o (rfl) (by omega) dX0_wears_16 (σ 0 (8 + 5 * o)) rfl ?_
  have w_1 := sw_cases (σ 0 (8 + 5 * o)) 1 5 (by decide)
  rcases w_1 with w_1 | w_1
  · skip
    refine r_tableOut (pc := 17) C 35 89 dX0_wears_17 w_1 (by decide) ?_
    have w_1_1 : ¬ (σ 0 (8 + 5 * o)) = 1 := fun q => by rw [q] at w_1; revert w_1; decide
    have w_1_2 : ¬ (σ 0 (8 + 5 * o)) = 2 := fun q => by rw [q] at w_1; revert w_1; decide
    have w_1_3 : ¬ (σ 0 (8 + 5 * o)) = 3 := fun q => by rw [q] at w_1; revert w_1; decide
    have w_1_4 : ¬ (σ 0 (8 + 5 * o)) = 4 := fun q => by rw [q] at w_1; revert w_1; decide
    have w_1_5 : ¬ (σ 0 (8 + 5 * o)) = 5 := fun q => by rw [q] at w_1; revert w_1; decide
    refine r_iload_n (pc := 89) C 0 dX0_wears_89 rfl rfl ?_
    exact r_iret (pc := 90) C hr hlk dX0_wears_90 rfl (by simp [wearsF, rg_wear hR ho, *]) rfl
  · obtain ⟨i_1, hi_1, w_1⟩ := w_1
    have hc_1 : i_1 = 0 ∨ i_1 = 1 ∨ i_1 = 2 ∨ i_1 = 3 ∨ i_1 = 4 := by omega
    rcases hc_1 with rfl | rfl | rfl | rfl | rfl
    · skip
      refine r_tableIn (pc := 17) C 35 52 dX0_wears_17 (by rw [w_1]; decide) (by rw [w_1]; decide) (by rw [w_1]; rfl) (by decide) ?_
      have w_1 : σ 0 (8 + 5 * o) = 1 := Int32.toInt_inj.mp (by rw [w_1]; rfl)
      refine r_iload_n (pc := 52) C 0 dX0_wears_52 rfl rfl ?_
      refine r_iconst (pc := 53) C 2 dX0_wears_53 (by decide) ?_
      refine r_idiv (pc := 54) C dX0_wears_54 (by decide) ?_
      exact r_iret (pc := 55) C hr hlk dX0_wears_55 rfl (by simp [wearsF, rg_wear hR ho, *]) rfl
    · skip
      refine r_tableIn (pc := 17) C 35 67 dX0_wears_17 (by rw [w_1]; decide) (by rw [w_1]; decide) (by rw [w_1]; rfl) (by decide) ?_
      have w_1 : σ 0 (8 + 5 * o) = 2 := Int32.toInt_inj.mp (by rw [w_1]; rfl)
      refine r_iload_n (pc := 67) C 0 dX0_wears_67 rfl rfl ?_
      refine r_iconst (pc := 68) C 4 dX0_wears_68 (by decide) ?_
      refine r_idiv (pc := 69) C dX0_wears_69 (by decide) ?_
      exact r_iret (pc := 70) C hr hlk dX0_wears_70 rfl (by simp [wearsF, rg_wear hR ho, *]) rfl
    · skip
      refine r_tableIn (pc := 17) C 35 56 dX0_wears_17 (by rw [w_1]; decide) (by rw [w_1]; decide) (by rw [w_1]; rfl) (by decide) ?_
      have w_1 : σ 0 (8 + 5 * o) = 3 := Int32.toInt_inj.mp (by rw [w_1]; rfl)
      refine r_iload_n (pc := 56) C 0 dX0_wears_56 rfl rfl ?_
      refine r_iconst (pc := 57) C 2 dX0_wears_57 (by decide) ?_
      refine r_idiv (pc := 58) C dX0_wears_58 (by decide) ?_
      refine r_aload_n (pc := 59) C 1 dX0_wears_59 rfl rfl ?_
      refine kg_laws (pc := 60) C fl_RX0_18 dX0_wears_60 ?_
      refine r_iconst (pc := 63) C 0 dX0_wears_63 (by decide) ?_
      refine kl_laws (pc := 64) C 0 (rfl) (by omega) dX0_wears_64 (σ 0 4) rfl ?_
      refine r_iadd (pc := 65) C dX0_wears_65 ?_
      exact r_iret (pc := 66) C hr hlk dX0_wears_66 rfl (by simp [wearsF, rg_wear hR ho, *]) rfl
    · skip
      refine r_tableIn (pc := 17) C 35 71 dX0_wears_17 (by rw [w_1]; decide) (by rw [w_1]; decide) (by rw [w_1]; rfl) (by decide) ?_
      have w_1 : σ 0 (8 + 5 * o) = 4 := Int32.toInt_inj.mp (by rw [w_1]; rfl)
      refine r_iload_n (pc := 71) C 0 dX0_wears_71 rfl rfl ?_
      refine r_iconst (pc := 72) C 4 dX0_wears_72 (by decide) ?_
      refine r_idiv (pc := 73) C dX0_wears_73 (by decide) ?_
      refine r_aload_n (pc := 74) C 1 dX0_wears_74 rfl rfl ?_
      refine kg_has (pc := 75) C fl_RX0_25 dX0_wears_75 ?_
      refine r_iconst (pc := 78) C 2 dX0_wears_78 (by decide) ?_
      refine ka_has (pc := 79) C 2 (rfl) (by omega) dX0_wears_79 ?_
      refine r_iload_n (pc := 80) C 2 dX0_wears_80 rfl rfl ?_
      refine kl_row (pc := 81) C 2 (by decide) o (rfl) (by omega) dX0_wears_81 (σ 0 (8 + 5 * o + 2)) rfl ?_
      refine r_bipush (pc := 82) C 10 dX0_wears_82 (by decide) ?_
      refine r_idiv (pc := 84) C dX0_wears_84 (by decide) ?_
      refine r_iadd (pc := 85) C dX0_wears_85 ?_
      exact r_iret (pc := 86) C hr hlk dX0_wears_86 rfl (by simp [wearsF, rg_wear hR ho, *]) rfl
    · skip
      refine r_tableIn (pc := 17) C 35 87 dX0_wears_17 (by rw [w_1]; decide) (by rw [w_1]; decide) (by rw [w_1]; rfl) (by decide) ?_
      have w_1 : σ 0 (8 + 5 * o) = 5 := Int32.toInt_inj.mp (by rw [w_1]; rfl)
      refine r_iconst (pc := 87) C 0 dX0_wears_87 (by decide) ?_
      exact r_iret (pc := 88) C hr hlk dX0_wears_88 rfl (by simp [wearsF, rg_wear hR ho, *]) rfl
theorem t_X0_wears' (l : Launch) (ad : Nat → Nat) (D : va_G) (cs : Nat → ClassId) (g : Nat → Nat) (σ : Nat → Nat → Int32) (pre post : va_W) (f0_ : Nat → Int32) (e0_ : σ 0 = f0_) (n : Nat) (o : Nat) (hN : f0_ 0 = nI n) (hn : n ≤ 8) (ho : o < n) (hR : rgM n f0_) : CTi l yX0_wears cX0_wears 3 .int ({ frames := 0, cells := 0, slots := 0, locals := 0 }) ad D (tysW cs) (pre ++ (wK cs g f0_ ++ post)) [.ref (g 0), .int (nI o)] (wearsF f0_ o) (pre ++ (wK cs g f0_ ++ post)) := by
  subst e0_
  exact t_X0_wears l ad D cs g σ pre post n o hN hn ho hR
theorem dX0_sees_0 : decode cX0_sees 0 = .ok (.aload_n 0, 1) := by decide +kernel
theorem dX0_sees_1 : decode cX0_sees 1 = .ok (.iload_n 1, 1) := by decide +kernel
theorem dX0_sees_2 : decode cX0_sees 2 = .ok (.invokevirtual 55, 3) := by decide +kernel
theorem dX0_sees_5 : decode cX0_sees 5 = .ok (.istore_n 3, 1) := by decide +kernel
theorem dX0_sees_6 : decode cX0_sees 6 = .ok (.aload_n 0, 1) := by decide +kernel
theorem dX0_sees_7 : decode cX0_sees 7 = .ok (.getfield 25, 3) := by decide +kernel
theorem dX0_sees_10 : decode cX0_sees 10 = .ok (.iconst 1, 1) := by decide +kernel
theorem dX0_sees_11 : decode cX0_sees 11 = .ok (.aaload, 1) := by decide +kernel
theorem dX0_sees_12 : decode cX0_sees 12 = .ok (.iload_n 2, 1) := by decide +kernel
theorem dX0_sees_13 : decode cX0_sees 13 = .ok (.iaload, 1) := by decide +kernel
theorem dX0_sees_14 : decode cX0_sees 14 = .ok (.bipush 99, 2) := by decide +kernel
theorem dX0_sees_16 : decode cX0_sees 16 = .ok (.iload_n 3, 1) := by decide +kernel
theorem dX0_sees_17 : decode cX0_sees 17 = .ok (.isub, 1) := by decide +kernel
theorem dX0_sees_18 : decode cX0_sees 18 = .ok (.imul, 1) := by decide +kernel
theorem dX0_sees_19 : decode cX0_sees 19 = .ok (.aload_n 0, 1) := by decide +kernel
theorem dX0_sees_20 : decode cX0_sees 20 = .ok (.getfield 25, 3) := by decide +kernel
theorem dX0_sees_23 : decode cX0_sees 23 = .ok (.iconst 2, 1) := by decide +kernel
theorem dX0_sees_24 : decode cX0_sees 24 = .ok (.aaload, 1) := by decide +kernel
theorem dX0_sees_25 : decode cX0_sees 25 = .ok (.iload_n 1, 1) := by decide +kernel
theorem dX0_sees_26 : decode cX0_sees 26 = .ok (.iaload, 1) := by decide +kernel
theorem dX0_sees_27 : decode cX0_sees 27 = .ok (.iload_n 3, 1) := by decide +kernel
theorem dX0_sees_28 : decode cX0_sees 28 = .ok (.imul, 1) := by decide +kernel
theorem dX0_sees_29 : decode cX0_sees 29 = .ok (.iadd, 1) := by decide +kernel
theorem dX0_sees_30 : decode cX0_sees 30 = .ok (.bipush 99, 2) := by decide +kernel
theorem dX0_sees_32 : decode cX0_sees 32 = .ok (.idiv, 1) := by decide +kernel
theorem dX0_sees_33 : decode cX0_sees 33 = .ok (.ireturn, 1) := by decide +kernel
set_option maxHeartbeats 400000 in
set_option maxRecDepth 20000 in
theorem t_X0_sees (l : Launch) (ad : Nat → Nat) (D : va_G) (cs : Nat → ClassId) (g : Nat → Nat) (σ : Nat → Nat → Int32) (pre post : va_W) (n : Nat) (o q : Nat) (hN : σ 0 0 = nI n) (hn : n ≤ 8) (ho : o < n) (hq : q < n) (hR : rgM n (σ 0)) : CTi l yX0_sees cX0_sees 4 .int ({ frames := 1, cells := 0, slots := 0, locals := 22 }) ad D (tysW cs) (pre ++ (wK cs g (σ 0) ++ post)) [.ref (g 0), .int (nI o), .int (nI q)] (seesF (σ 0) o q) (pre ++ (wK cs g (σ 0) ++ post)) := by
  refine CTi.of (lv0 := [(0, .ref (g 0)), (1, .int (nI o)), (2, .int (nI q))]) (by decide) rfl (Nat.le_of_ble_eq_true rfl) (fun p e s m args below meth c A C hr hlk => ?_)
  have C : Cx p s m args c cX0_sees 4 RX0 ad D (tysW cs) A := C
  refine r_aload_n (pc := 0) C 0 dX0_sees_0 rfl rfl ?_
  refine r_iload_n (pc := 1) C 1 dX0_sees_1 rfl rfl ?_
  refine rc_Vi (pc := 2) C (t_X0_wears' l ad D cs g (fun _ => σ 0) pre post (σ 0) (rfl) n o hN hn ho hR) mv_X0_wears ml_RX0_55 rfl ⟨Nat.le_of_ble_eq_true rfl, Nat.le_of_ble_eq_true rfl⟩ ⟨rfl, rfl⟩ (q0 := 0) rfl rfl rfl rfl rfl rfl (Nat.le_of_ble_eq_true rfl) dX0_sees_2 ?_
  refine r_istore_n (pc := 5) C [(3, .int (wearsF (σ 0) o)), (0, .ref (g 0)), (1, .int (nI o)), (2, .int (nI q))] dX0_sees_5 rfl (by decide) rfl ?_
  refine r_aload_n (pc := 6) C 1 dX0_sees_6 rfl rfl ?_
  refine kg_has (pc := 7) C fl_RX0_25 dX0_sees_7 ?_
  refine r_iconst (pc := 10) C 1 dX0_sees_10 (by decide) ?_
  refine ka_has (pc := 11) C 1 (rfl) (by omega) dX0_sees_11 ?_
  refine r_iload_n (pc := 12) C 3 dX0_sees_12 rfl rfl ?_
  refine kl_row (pc := 13) C 1 (by decide) q (rfl) (by omega) dX0_sees_13 (σ 0 (8 + 5 * q + 1)) rfl ?_
  refine r_bipush (pc := 14) C 99 dX0_sees_14 (by decide) ?_
  refine r_iload_n (pc := 16) C 0 dX0_sees_16 rfl rfl ?_
  refine r_isub (pc := 17) C dX0_sees_17 ?_
  refine r_imul (pc := 18) C dX0_sees_18 ?_
  refine r_aload_n (pc := 19) C 1 dX0_sees_19 rfl rfl ?_
  refine kg_has (pc := 20) C fl_RX0_25 dX0_sees_20 ?_
  refine r_iconst (pc := 23) C 2 dX0_sees_23 (by decide) ?_
  refine ka_has (pc := 24) C 2 (rfl) (by omega) dX0_sees_24 ?_
  refine r_iload_n (pc := 25) C 2 dX0_sees_25 rfl rfl ?_
  refine kl_row (pc := 26) C 2 (by decide) o (rfl) (by omega) dX0_sees_26 (σ 0 (8 + 5 * o + 2)) rfl ?_
  refine r_iload_n (pc := 27) C 0 dX0_sees_27 rfl rfl ?_
  refine r_imul (pc := 28) C dX0_sees_28 ?_
  refine r_iadd (pc := 29) C dX0_sees_29 ?_
  refine r_bipush (pc := 30) C 99 dX0_sees_30 (by decide) ?_
  refine r_idiv (pc := 32) C dX0_sees_32 (by decide) ?_
  exact r_iret (pc := 33) C hr hlk dX0_sees_33 rfl (by first | rfl | simp [bI, *]) rfl
theorem t_X0_sees' (l : Launch) (ad : Nat → Nat) (D : va_G) (cs : Nat → ClassId) (g : Nat → Nat) (σ : Nat → Nat → Int32) (pre post : va_W) (f0_ : Nat → Int32) (e0_ : σ 0 = f0_) (n : Nat) (o q : Nat) (hN : f0_ 0 = nI n) (hn : n ≤ 8) (ho : o < n) (hq : q < n) (hR : rgM n f0_) : CTi l yX0_sees cX0_sees 4 .int ({ frames := 1, cells := 0, slots := 0, locals := 22 }) ad D (tysW cs) (pre ++ (wK cs g f0_ ++ post)) [.ref (g 0), .int (nI o), .int (nI q)] (seesF f0_ o q) (pre ++ (wK cs g f0_ ++ post)) := by
  subst e0_
  exact t_X0_sees l ad D cs g σ pre post n o q hN hn ho hq hR
theorem dX0_frays_0 : decode cX0_frays 0 = .ok (.aload_n 0, 1) := by decide +kernel
theorem dX0_frays_1 : decode cX0_frays 1 = .ok (.getfield 18, 3) := by decide +kernel
theorem dX0_frays_4 : decode cX0_frays 4 = .ok (.iconst 1, 1) := by decide +kernel
theorem dX0_frays_5 : decode cX0_frays 5 = .ok (.iaload, 1) := by decide +kernel
theorem dX0_frays_6 : decode cX0_frays 6 = .ok (.istore_n 2, 1) := by decide +kernel
theorem dX0_frays_7 : decode cX0_frays 7 = .ok (.aload_n 0, 1) := by decide +kernel
theorem dX0_frays_8 : decode cX0_frays 8 = .ok (.getfield 25, 3) := by decide +kernel
theorem dX0_frays_11 : decode cX0_frays 11 = .ok (.iconst 0, 1) := by decide +kernel
theorem dX0_frays_12 : decode cX0_frays 12 = .ok (.aaload, 1) := by decide +kernel
theorem dX0_frays_13 : decode cX0_frays 13 = .ok (.iload_n 1, 1) := by decide +kernel
theorem dX0_frays_14 : decode cX0_frays 14 = .ok (.iaload, 1) := by decide +kernel
theorem dX0_frays_15 : decode cX0_frays 15 = .ok (.tableswitch 74 1 5 #[33, 48, 37, 52, 69], 33) := by decide +kernel
theorem dX0_frays_48 : decode cX0_frays 48 = .ok (.iload_n 2, 1) := by decide +kernel
theorem dX0_frays_49 : decode cX0_frays 49 = .ok (.iconst 2, 1) := by decide +kernel
theorem dX0_frays_50 : decode cX0_frays 50 = .ok (.isub, 1) := by decide +kernel
theorem dX0_frays_51 : decode cX0_frays 51 = .ok (.ireturn, 1) := by decide +kernel
theorem dX0_frays_52 : decode cX0_frays 52 = .ok (.iload_n 2, 1) := by decide +kernel
theorem dX0_frays_53 : decode cX0_frays 53 = .ok (.iconst 2, 1) := by decide +kernel
theorem dX0_frays_54 : decode cX0_frays 54 = .ok (.isub, 1) := by decide +kernel
theorem dX0_frays_55 : decode cX0_frays 55 = .ok (.aload_n 0, 1) := by decide +kernel
theorem dX0_frays_56 : decode cX0_frays 56 = .ok (.getfield 18, 3) := by decide +kernel
theorem dX0_frays_59 : decode cX0_frays 59 = .ok (.iconst 0, 1) := by decide +kernel
theorem dX0_frays_60 : decode cX0_frays 60 = .ok (.iaload, 1) := by decide +kernel
theorem dX0_frays_61 : decode cX0_frays 61 = .ok (.isub, 1) := by decide +kernel
theorem dX0_frays_62 : decode cX0_frays 62 = .ok (.ireturn, 1) := by decide +kernel
theorem dX0_frays_63 : decode cX0_frays 63 = .ok (.iload_n 2, 1) := by decide +kernel
theorem dX0_frays_64 : decode cX0_frays 64 = .ok (.iconst 2, 1) := by decide +kernel
theorem dX0_frays_65 : decode cX0_frays 65 = .ok (.imul, 1) := by decide +kernel
theorem dX0_frays_66 : decode cX0_frays 66 = .ok (.ireturn, 1) := by decide +kernel
theorem dX0_frays_67 : decode cX0_frays 67 = .ok (.aload_n 0, 1) := by decide +kernel
theorem dX0_frays_68 : decode cX0_frays 68 = .ok (.getfield 41, 3) := by decide +kernel
theorem dX0_frays_71 : decode cX0_frays 71 = .ok (.iconst 2, 1) := by decide +kernel
theorem dX0_frays_72 : decode cX0_frays 72 = .ok (.irem, 1) := by decide +kernel
theorem dX0_frays_73 : decode cX0_frays 73 = .ok (.ifCond .ne 9, 3) := by decide +kernel
theorem dX0_frays_76 : decode cX0_frays 76 = .ok (.iload_n 2, 1) := by decide +kernel
theorem dX0_frays_77 : decode cX0_frays 77 = .ok (.iconst 2, 1) := by decide +kernel
theorem dX0_frays_78 : decode cX0_frays 78 = .ok (.imul, 1) := by decide +kernel
theorem dX0_frays_79 : decode cX0_frays 79 = .ok (.goto 4, 3) := by decide +kernel
theorem dX0_frays_82 : decode cX0_frays 82 = .ok (.iconst 0, 1) := by decide +kernel
theorem dX0_frays_83 : decode cX0_frays 83 = .ok (.ireturn, 1) := by decide +kernel
theorem dX0_frays_84 : decode cX0_frays 84 = .ok (.iload_n 2, 1) := by decide +kernel
theorem dX0_frays_85 : decode cX0_frays 85 = .ok (.bipush 9, 2) := by decide +kernel
theorem dX0_frays_87 : decode cX0_frays 87 = .ok (.iadd, 1) := by decide +kernel
theorem dX0_frays_88 : decode cX0_frays 88 = .ok (.ireturn, 1) := by decide +kernel
theorem dX0_frays_89 : decode cX0_frays 89 = .ok (.iload_n 2, 1) := by decide +kernel
theorem dX0_frays_90 : decode cX0_frays 90 = .ok (.ireturn, 1) := by decide +kernel
set_option maxHeartbeats 400000 in
set_option maxRecDepth 20000 in
theorem t_X0_frays (l : Launch) (ad : Nat → Nat) (D : va_G) (cs : Nat → ClassId) (g : Nat → Nat) (σ : Nat → Nat → Int32) (pre post : va_W) (n : Nat) (o : Nat) (hN : σ 0 0 = nI n) (hn : n ≤ 8) (ho : o < n) : CTi l yX0_frays cX0_frays 3 .int ({ frames := 0, cells := 0, slots := 0, locals := 0 }) ad D (tysW cs) (pre ++ (wK cs g (σ 0) ++ post)) [.ref (g 0), .int (nI o)] (fraysF (σ 0) o) (pre ++ (wK cs g (σ 0) ++ post)) := by
  refine CTi.of (lv0 := [(0, .ref (g 0)), (1, .int (nI o))]) (by decide) rfl (Nat.le_of_ble_eq_true rfl) (fun p e s m args below meth c A C hr hlk => ?_)
  have C : Cx p s m args c cX0_frays 3 RX0 ad D (tysW cs) A := C
  refine r_aload_n (pc := 0) C 0 dX0_frays_0 rfl rfl ?_
  refine kg_laws (pc := 1) C fl_RX0_18 dX0_frays_1 ?_
  refine r_iconst (pc := 4) C 1 dX0_frays_4 (by decide) ?_
  refine kl_laws (pc := 5) C 1 (rfl) (by omega) dX0_frays_5 (σ 0 5) rfl ?_
  refine r_istore_n (pc := 6) C [(2, .int (σ 0 5)), (0, .ref (g 0)), (1, .int (nI o))] dX0_frays_6 rfl (by decide) rfl ?_
  refine r_aload_n (pc := 7) C 1 dX0_frays_7 rfl rfl ?_
  refine kg_has (pc := 8) C fl_RX0_25 dX0_frays_8 ?_
  refine r_iconst (pc := 11) C 0 dX0_frays_11 (by decide) ?_
  refine ka_has (pc := 12) C 0 (rfl) (by omega) dX0_frays_12 ?_
  refine r_iload_n (pc := 13) C 2 dX0_frays_13 rfl rfl ?_
  refine kl_row (pc := 14) C 0 (by decide) o (rfl) (by omega) dX0_frays_14 (σ 0 (8 + 5 * o)) rfl ?_
  have w_1 := sw_cases (σ 0 (8 + 5 * o)) 1 5 (by decide)
  rcases w_1 with w_1 | w_1
  · skip
    refine r_tableOut (pc := 15) C 33 89 dX0_frays_15 w_1 (by decide) ?_
    have w_1_1 : ¬ (σ 0 (8 + 5 * o)) = 1 := fun q => by rw [q] at w_1; revert w_1; decide
    have w_1_2 : ¬ (σ 0 (8 + 5 * o)) = 2 := fun q => by rw [q] at w_1; revert w_1; decide
    have w_1_3 : ¬ (σ 0 (8 + 5 * o)) = 3 := fun q => by rw [q] at w_1; revert w_1; decide
    have w_1_4 : ¬ (σ 0 (8 + 5 * o)) = 4 := fun q => by rw [q] at w_1; revert w_1; decide
    have w_1_5 : ¬ (σ 0 (8 + 5 * o)) = 5 := fun q => by rw [q] at w_1; revert w_1; decide
    refine r_iload_n (pc := 89) C 0 dX0_frays_89 rfl rfl ?_
    exact r_iret (pc := 90) C hr hlk dX0_frays_90 rfl (by simp [fraysF, Int32.mul_comm (σ 0 5) 2, *]) rfl
  · obtain ⟨i_1, hi_1, w_1⟩ := w_1
    have hc_1 : i_1 = 0 ∨ i_1 = 1 ∨ i_1 = 2 ∨ i_1 = 3 ∨ i_1 = 4 := by omega
    rcases hc_1 with rfl | rfl | rfl | rfl | rfl
    · skip
      refine r_tableIn (pc := 15) C 33 48 dX0_frays_15 (by rw [w_1]; decide) (by rw [w_1]; decide) (by rw [w_1]; rfl) (by decide) ?_
      have w_1 : σ 0 (8 + 5 * o) = 1 := Int32.toInt_inj.mp (by rw [w_1]; rfl)
      refine r_iload_n (pc := 48) C 0 dX0_frays_48 rfl rfl ?_
      refine r_iconst (pc := 49) C 2 dX0_frays_49 (by decide) ?_
      refine r_isub (pc := 50) C dX0_frays_50 ?_
      exact r_iret (pc := 51) C hr hlk dX0_frays_51 rfl (by simp [fraysF, Int32.mul_comm (σ 0 5) 2, *]) rfl
    · skip
      refine r_tableIn (pc := 15) C 33 63 dX0_frays_15 (by rw [w_1]; decide) (by rw [w_1]; decide) (by rw [w_1]; rfl) (by decide) ?_
      have w_1 : σ 0 (8 + 5 * o) = 2 := Int32.toInt_inj.mp (by rw [w_1]; rfl)
      refine r_iload_n (pc := 63) C 0 dX0_frays_63 rfl rfl ?_
      refine r_iconst (pc := 64) C 2 dX0_frays_64 (by decide) ?_
      refine r_imul (pc := 65) C dX0_frays_65 ?_
      exact r_iret (pc := 66) C hr hlk dX0_frays_66 rfl (by simp [fraysF, Int32.mul_comm (σ 0 5) 2, *]) rfl
    · skip
      refine r_tableIn (pc := 15) C 33 52 dX0_frays_15 (by rw [w_1]; decide) (by rw [w_1]; decide) (by rw [w_1]; rfl) (by decide) ?_
      have w_1 : σ 0 (8 + 5 * o) = 3 := Int32.toInt_inj.mp (by rw [w_1]; rfl)
      refine r_iload_n (pc := 52) C 0 dX0_frays_52 rfl rfl ?_
      refine r_iconst (pc := 53) C 2 dX0_frays_53 (by decide) ?_
      refine r_isub (pc := 54) C dX0_frays_54 ?_
      refine r_aload_n (pc := 55) C 1 dX0_frays_55 rfl rfl ?_
      refine kg_laws (pc := 56) C fl_RX0_18 dX0_frays_56 ?_
      refine r_iconst (pc := 59) C 0 dX0_frays_59 (by decide) ?_
      refine kl_laws (pc := 60) C 0 (rfl) (by omega) dX0_frays_60 (σ 0 4) rfl ?_
      refine r_isub (pc := 61) C dX0_frays_61 ?_
      exact r_iret (pc := 62) C hr hlk dX0_frays_62 rfl (by simp [fraysF, Int32.mul_comm (σ 0 5) 2, *]) rfl
    · skip
      refine r_tableIn (pc := 15) C 33 67 dX0_frays_15 (by rw [w_1]; decide) (by rw [w_1]; decide) (by rw [w_1]; rfl) (by decide) ?_
      have w_1 : σ 0 (8 + 5 * o) = 4 := Int32.toInt_inj.mp (by rw [w_1]; rfl)
      refine r_aload_n (pc := 67) C 1 dX0_frays_67 rfl rfl ?_
      refine kg_dayNumber (pc := 68) C fl_RX0_41 dX0_frays_68 (σ 0 1) rfl ?_
      refine r_iconst (pc := 71) C 2 dX0_frays_71 (by decide) ?_
      refine r_irem (pc := 72) C dX0_frays_72 (by decide) ?_
      refine r_if_ne (pc := 73) C 82 dX0_frays_73 (by decide) (fun c_2 => ?_) (fun c_2 => ?_)
      · skip
        refine r_iconst (pc := 82) C 0 dX0_frays_82 (by decide) ?_
        exact r_iret (pc := 83) C hr hlk dX0_frays_83 rfl (by simp [fraysF, Int32.mul_comm (σ 0 5) 2, *]) rfl
      · skip
        refine r_iload_n (pc := 76) C 0 dX0_frays_76 rfl rfl ?_
        refine r_iconst (pc := 77) C 2 dX0_frays_77 (by decide) ?_
        refine r_imul (pc := 78) C dX0_frays_78 ?_
        refine r_goto (pc := 79) C 83 dX0_frays_79 (by decide) ?_
        exact r_iret (pc := 83) C hr hlk dX0_frays_83 rfl (by simp [fraysF, Int32.mul_comm (σ 0 5) 2, *]) rfl
    · skip
      refine r_tableIn (pc := 15) C 33 84 dX0_frays_15 (by rw [w_1]; decide) (by rw [w_1]; decide) (by rw [w_1]; rfl) (by decide) ?_
      have w_1 : σ 0 (8 + 5 * o) = 5 := Int32.toInt_inj.mp (by rw [w_1]; rfl)
      refine r_iload_n (pc := 84) C 0 dX0_frays_84 rfl rfl ?_
      refine r_bipush (pc := 85) C 9 dX0_frays_85 (by decide) ?_
      refine r_iadd (pc := 87) C dX0_frays_87 ?_
      exact r_iret (pc := 88) C hr hlk dX0_frays_88 rfl (by simp [fraysF, Int32.mul_comm (σ 0 5) 2, *]) rfl
theorem t_X0_frays' (l : Launch) (ad : Nat → Nat) (D : va_G) (cs : Nat → ClassId) (g : Nat → Nat) (σ : Nat → Nat → Int32) (pre post : va_W) (f0_ : Nat → Int32) (e0_ : σ 0 = f0_) (n : Nat) (o : Nat) (hN : f0_ 0 = nI n) (hn : n ≤ 8) (ho : o < n) : CTi l yX0_frays cX0_frays 3 .int ({ frames := 0, cells := 0, slots := 0, locals := 0 }) ad D (tysW cs) (pre ++ (wK cs g f0_ ++ post)) [.ref (g 0), .int (nI o)] (fraysF f0_ o) (pre ++ (wK cs g f0_ ++ post)) := by
  subst e0_
  exact t_X0_frays l ad D cs g σ pre post n o hN hn ho
theorem dX0_offers_0 : decode cX0_offers 0 = .ok (.aload_n 0, 1) := by decide +kernel
theorem dX0_offers_1 : decode cX0_offers 1 = .ok (.iload_n 1, 1) := by decide +kernel
theorem dX0_offers_2 : decode cX0_offers 2 = .ok (.iload_n 2, 1) := by decide +kernel
theorem dX0_offers_3 : decode cX0_offers 3 = .ok (.invokevirtual 59, 3) := by decide +kernel
theorem dX0_offers_6 : decode cX0_offers 6 = .ok (.istore_n 3, 1) := by decide +kernel
theorem dX0_offers_7 : decode cX0_offers 7 = .ok (.aload_n 0, 1) := by decide +kernel
theorem dX0_offers_8 : decode cX0_offers 8 = .ok (.getfield 25, 3) := by decide +kernel
theorem dX0_offers_11 : decode cX0_offers 11 = .ok (.iconst 0, 1) := by decide +kernel
theorem dX0_offers_12 : decode cX0_offers 12 = .ok (.aaload, 1) := by decide +kernel
theorem dX0_offers_13 : decode cX0_offers 13 = .ok (.iload_n 1, 1) := by decide +kernel
theorem dX0_offers_14 : decode cX0_offers 14 = .ok (.iaload, 1) := by decide +kernel
theorem dX0_offers_15 : decode cX0_offers 15 = .ok (.tableswitch 68 1 5 #[33, 53, 42, 57, 63], 33) := by decide +kernel
theorem dX0_offers_48 : decode cX0_offers 48 = .ok (.iload_n 3, 1) := by decide +kernel
theorem dX0_offers_49 : decode cX0_offers 49 = .ok (.aload_n 0, 1) := by decide +kernel
theorem dX0_offers_50 : decode cX0_offers 50 = .ok (.getfield 18, 3) := by decide +kernel
theorem dX0_offers_53 : decode cX0_offers 53 = .ok (.iconst 0, 1) := by decide +kernel
theorem dX0_offers_54 : decode cX0_offers 54 = .ok (.iaload, 1) := by decide +kernel
theorem dX0_offers_55 : decode cX0_offers 55 = .ok (.isub, 1) := by decide +kernel
theorem dX0_offers_56 : decode cX0_offers 56 = .ok (.ireturn, 1) := by decide +kernel
theorem dX0_offers_57 : decode cX0_offers 57 = .ok (.iload_n 3, 1) := by decide +kernel
theorem dX0_offers_58 : decode cX0_offers 58 = .ok (.aload_n 0, 1) := by decide +kernel
theorem dX0_offers_59 : decode cX0_offers 59 = .ok (.getfield 18, 3) := by decide +kernel
theorem dX0_offers_62 : decode cX0_offers 62 = .ok (.iconst 0, 1) := by decide +kernel
theorem dX0_offers_63 : decode cX0_offers 63 = .ok (.iaload, 1) := by decide +kernel
theorem dX0_offers_64 : decode cX0_offers 64 = .ok (.isub, 1) := by decide +kernel
theorem dX0_offers_65 : decode cX0_offers 65 = .ok (.iconst 2, 1) := by decide +kernel
theorem dX0_offers_66 : decode cX0_offers 66 = .ok (.imul, 1) := by decide +kernel
theorem dX0_offers_67 : decode cX0_offers 67 = .ok (.ireturn, 1) := by decide +kernel
theorem dX0_offers_68 : decode cX0_offers 68 = .ok (.iload_n 3, 1) := by decide +kernel
theorem dX0_offers_69 : decode cX0_offers 69 = .ok (.iconst 5, 1) := by decide +kernel
theorem dX0_offers_70 : decode cX0_offers 70 = .ok (.iadd, 1) := by decide +kernel
theorem dX0_offers_71 : decode cX0_offers 71 = .ok (.ireturn, 1) := by decide +kernel
theorem dX0_offers_72 : decode cX0_offers 72 = .ok (.iload_n 3, 1) := by decide +kernel
theorem dX0_offers_73 : decode cX0_offers 73 = .ok (.iconst 5, 1) := by decide +kernel
theorem dX0_offers_74 : decode cX0_offers 74 = .ok (.iadd, 1) := by decide +kernel
theorem dX0_offers_75 : decode cX0_offers 75 = .ok (.iconst 2, 1) := by decide +kernel
theorem dX0_offers_76 : decode cX0_offers 76 = .ok (.idiv, 1) := by decide +kernel
theorem dX0_offers_77 : decode cX0_offers 77 = .ok (.ireturn, 1) := by decide +kernel
theorem dX0_offers_78 : decode cX0_offers 78 = .ok (.iload_n 3, 1) := by decide +kernel
theorem dX0_offers_79 : decode cX0_offers 79 = .ok (.bipush 10, 2) := by decide +kernel
theorem dX0_offers_81 : decode cX0_offers 81 = .ok (.isub, 1) := by decide +kernel
theorem dX0_offers_82 : decode cX0_offers 82 = .ok (.ireturn, 1) := by decide +kernel
theorem dX0_offers_83 : decode cX0_offers 83 = .ok (.iload_n 3, 1) := by decide +kernel
theorem dX0_offers_84 : decode cX0_offers 84 = .ok (.ireturn, 1) := by decide +kernel
set_option maxHeartbeats 400000 in
set_option maxRecDepth 20000 in
theorem t_X0_offers (l : Launch) (ad : Nat → Nat) (D : va_G) (cs : Nat → ClassId) (g : Nat → Nat) (σ : Nat → Nat → Int32) (pre post : va_W) (n : Nat) (o q : Nat) (hN : σ 0 0 = nI n) (hn : n ≤ 8) (ho : o < n) (hq : q < n) (hR : rgM n (σ 0)) : CTi l yX0_offers cX0_offers 4 .int ({ frames := 2, cells := 0, slots := 0, locals := 45 }) ad D (tysW cs) (pre ++ (wK cs g (σ 0) ++ post)) [.ref (g 0), .int (nI o), .int (nI q)] (offersF (σ 0) o q) (pre ++ (wK cs g (σ 0) ++ post)) := by
  refine CTi.of (lv0 := [(0, .ref (g 0)), (1, .int (nI o)), (2, .int (nI q))]) (by decide) rfl (Nat.le_of_ble_eq_true rfl) (fun p e s m args below meth c A C hr hlk => ?_)
  have C : Cx p s m args c cX0_offers 4 RX0 ad D (tysW cs) A := C
  refine r_aload_n (pc := 0) C 0 dX0_offers_0 rfl rfl ?_
  refine r_iload_n (pc := 1) C 1 dX0_offers_1 rfl rfl ?_
  refine r_iload_n (pc := 2) C 2 dX0_offers_2 rfl rfl ?_
  refine rc_Vi (pc := 3) C (t_X0_sees' l ad D cs g (fun _ => σ 0) pre post (σ 0) (rfl) n o q hN hn ho hq hR) mv_X0_sees ml_RX0_59 rfl ⟨Nat.le_of_ble_eq_true rfl, Nat.le_of_ble_eq_true rfl⟩ ⟨rfl, rfl⟩ (q0 := 0) rfl rfl rfl rfl rfl rfl (Nat.le_of_ble_eq_true rfl) dX0_offers_3 ?_
  refine r_istore_n (pc := 6) C [(3, .int (seesF (σ 0) o q)), (0, .ref (g 0)), (1, .int (nI o)), (2, .int (nI q))] dX0_offers_6 rfl (by decide) rfl ?_
  refine r_aload_n (pc := 7) C 1 dX0_offers_7 rfl rfl ?_
  refine kg_has (pc := 8) C fl_RX0_25 dX0_offers_8 ?_
  refine r_iconst (pc := 11) C 0 dX0_offers_11 (by decide) ?_
  refine ka_has (pc := 12) C 0 (rfl) (by omega) dX0_offers_12 ?_
  refine r_iload_n (pc := 13) C 2 dX0_offers_13 rfl rfl ?_
  refine kl_row (pc := 14) C 0 (by decide) o (rfl) (by omega) dX0_offers_14 (σ 0 (8 + 5 * o)) rfl ?_
  have w_1 := sw_cases (σ 0 (8 + 5 * o)) 1 5 (by decide)
  rcases w_1 with w_1 | w_1
  · skip
    refine r_tableOut (pc := 15) C 33 83 dX0_offers_15 w_1 (by decide) ?_
    have w_1_1 : ¬ (σ 0 (8 + 5 * o)) = 1 := fun q => by rw [q] at w_1; revert w_1; decide
    have w_1_2 : ¬ (σ 0 (8 + 5 * o)) = 2 := fun q => by rw [q] at w_1; revert w_1; decide
    have w_1_3 : ¬ (σ 0 (8 + 5 * o)) = 3 := fun q => by rw [q] at w_1; revert w_1; decide
    have w_1_4 : ¬ (σ 0 (8 + 5 * o)) = 4 := fun q => by rw [q] at w_1; revert w_1; decide
    have w_1_5 : ¬ (σ 0 (8 + 5 * o)) = 5 := fun q => by rw [q] at w_1; revert w_1; decide
    refine r_iload_n (pc := 83) C 0 dX0_offers_83 rfl rfl ?_
    exact r_iret (pc := 84) C hr hlk dX0_offers_84 rfl (by simp [offersF, Int32.mul_comm, *]) rfl
  · obtain ⟨i_1, hi_1, w_1⟩ := w_1
    have hc_1 : i_1 = 0 ∨ i_1 = 1 ∨ i_1 = 2 ∨ i_1 = 3 ∨ i_1 = 4 := by omega
    rcases hc_1 with rfl | rfl | rfl | rfl | rfl
    · skip
      refine r_tableIn (pc := 15) C 33 48 dX0_offers_15 (by rw [w_1]; decide) (by rw [w_1]; decide) (by rw [w_1]; rfl) (by decide) ?_
      have w_1 : σ 0 (8 + 5 * o) = 1 := Int32.toInt_inj.mp (by rw [w_1]; rfl)
      refine r_iload_n (pc := 48) C 0 dX0_offers_48 rfl rfl ?_
      refine r_aload_n (pc := 49) C 1 dX0_offers_49 rfl rfl ?_
      refine kg_laws (pc := 50) C fl_RX0_18 dX0_offers_50 ?_
      refine r_iconst (pc := 53) C 0 dX0_offers_53 (by decide) ?_
      refine kl_laws (pc := 54) C 0 (rfl) (by omega) dX0_offers_54 (σ 0 4) rfl ?_
      refine r_isub (pc := 55) C dX0_offers_55 ?_
      exact r_iret (pc := 56) C hr hlk dX0_offers_56 rfl (by simp [offersF, Int32.mul_comm, *]) rfl
    · skip
      refine r_tableIn (pc := 15) C 33 68 dX0_offers_15 (by rw [w_1]; decide) (by rw [w_1]; decide) (by rw [w_1]; rfl) (by decide) ?_
      have w_1 : σ 0 (8 + 5 * o) = 2 := Int32.toInt_inj.mp (by rw [w_1]; rfl)
      refine r_iload_n (pc := 68) C 0 dX0_offers_68 rfl rfl ?_
      refine r_iconst (pc := 69) C 5 dX0_offers_69 (by decide) ?_
      refine r_iadd (pc := 70) C dX0_offers_70 ?_
      exact r_iret (pc := 71) C hr hlk dX0_offers_71 rfl (by simp [offersF, Int32.mul_comm, *]) rfl
    · skip
      refine r_tableIn (pc := 15) C 33 57 dX0_offers_15 (by rw [w_1]; decide) (by rw [w_1]; decide) (by rw [w_1]; rfl) (by decide) ?_
      have w_1 : σ 0 (8 + 5 * o) = 3 := Int32.toInt_inj.mp (by rw [w_1]; rfl)
      refine r_iload_n (pc := 57) C 0 dX0_offers_57 rfl rfl ?_
      refine r_aload_n (pc := 58) C 1 dX0_offers_58 rfl rfl ?_
      refine kg_laws (pc := 59) C fl_RX0_18 dX0_offers_59 ?_
      refine r_iconst (pc := 62) C 0 dX0_offers_62 (by decide) ?_
      refine kl_laws (pc := 63) C 0 (rfl) (by omega) dX0_offers_63 (σ 0 4) rfl ?_
      refine r_isub (pc := 64) C dX0_offers_64 ?_
      refine r_iconst (pc := 65) C 2 dX0_offers_65 (by decide) ?_
      refine r_imul (pc := 66) C dX0_offers_66 ?_
      exact r_iret (pc := 67) C hr hlk dX0_offers_67 rfl (by simp [offersF, Int32.mul_comm, *]) rfl
    · skip
      refine r_tableIn (pc := 15) C 33 72 dX0_offers_15 (by rw [w_1]; decide) (by rw [w_1]; decide) (by rw [w_1]; rfl) (by decide) ?_
      have w_1 : σ 0 (8 + 5 * o) = 4 := Int32.toInt_inj.mp (by rw [w_1]; rfl)
      refine r_iload_n (pc := 72) C 0 dX0_offers_72 rfl rfl ?_
      refine r_iconst (pc := 73) C 5 dX0_offers_73 (by decide) ?_
      refine r_iadd (pc := 74) C dX0_offers_74 ?_
      refine r_iconst (pc := 75) C 2 dX0_offers_75 (by decide) ?_
      refine r_idiv (pc := 76) C dX0_offers_76 (by decide) ?_
      exact r_iret (pc := 77) C hr hlk dX0_offers_77 rfl (by simp [offersF, Int32.mul_comm, *]) rfl
    · skip
      refine r_tableIn (pc := 15) C 33 78 dX0_offers_15 (by rw [w_1]; decide) (by rw [w_1]; decide) (by rw [w_1]; rfl) (by decide) ?_
      have w_1 : σ 0 (8 + 5 * o) = 5 := Int32.toInt_inj.mp (by rw [w_1]; rfl)
      refine r_iload_n (pc := 78) C 0 dX0_offers_78 rfl rfl ?_
      refine r_bipush (pc := 79) C 10 dX0_offers_79 (by decide) ?_
      refine r_isub (pc := 81) C dX0_offers_81 ?_
      exact r_iret (pc := 82) C hr hlk dX0_offers_82 rfl (by simp [offersF, Int32.mul_comm, *]) rfl
theorem t_X0_offers' (l : Launch) (ad : Nat → Nat) (D : va_G) (cs : Nat → ClassId) (g : Nat → Nat) (σ : Nat → Nat → Int32) (pre post : va_W) (f0_ : Nat → Int32) (e0_ : σ 0 = f0_) (n : Nat) (o q : Nat) (hN : f0_ 0 = nI n) (hn : n ≤ 8) (ho : o < n) (hq : q < n) (hR : rgM n f0_) : CTi l yX0_offers cX0_offers 4 .int ({ frames := 2, cells := 0, slots := 0, locals := 45 }) ad D (tysW cs) (pre ++ (wK cs g f0_ ++ post)) [.ref (g 0), .int (nI o), .int (nI q)] (offersF f0_ o q) (pre ++ (wK cs g f0_ ++ post)) := by
  subst e0_
  exact t_X0_offers l ad D cs g σ pre post n o q hN hn ho hq hR
theorem dX0_setFairWith_0 : decode cX0_setFairWith 0 = .ok (.iconst 0, 1) := by decide +kernel
theorem dX0_setFairWith_1 : decode cX0_setFairWith 1 = .ok (.istore_n 2, 1) := by decide +kernel
theorem dX0_setFairWith_2 : decode cX0_setFairWith 2 = .ok (.iconst 0, 1) := by decide +kernel
theorem dX0_setFairWith_3 : decode cX0_setFairWith 3 = .ok (.istore_n 3, 1) := by decide +kernel
theorem dX0_setFairWith_4 : decode cX0_setFairWith 4 = .ok (.iload_n 3, 1) := by decide +kernel
theorem dX0_setFairWith_5 : decode cX0_setFairWith 5 = .ok (.aload_n 0, 1) := by decide +kernel
theorem dX0_setFairWith_6 : decode cX0_setFairWith 6 = .ok (.getfield 38, 3) := by decide +kernel
theorem dX0_setFairWith_9 : decode cX0_setFairWith 9 = .ok (.if_icmp .ge 35, 3) := by decide +kernel
theorem dX0_setFairWith_12 : decode cX0_setFairWith 12 = .ok (.iload_n 3, 1) := by decide +kernel
theorem dX0_setFairWith_13 : decode cX0_setFairWith 13 = .ok (.iload_n 1, 1) := by decide +kernel
theorem dX0_setFairWith_14 : decode cX0_setFairWith 14 = .ok (.if_icmp .eq 24, 3) := by decide +kernel
theorem dX0_setFairWith_17 : decode cX0_setFairWith 17 = .ok (.aload_n 0, 1) := by decide +kernel
theorem dX0_setFairWith_18 : decode cX0_setFairWith 18 = .ok (.iload_n 1, 1) := by decide +kernel
theorem dX0_setFairWith_19 : decode cX0_setFairWith 19 = .ok (.iload_n 3, 1) := by decide +kernel
theorem dX0_setFairWith_20 : decode cX0_setFairWith 20 = .ok (.invokevirtual 69, 3) := by decide +kernel
theorem dX0_setFairWith_23 : decode cX0_setFairWith 23 = .ok (.aload_n 0, 1) := by decide +kernel
theorem dX0_setFairWith_24 : decode cX0_setFairWith 24 = .ok (.iload_n 3, 1) := by decide +kernel
theorem dX0_setFairWith_25 : decode cX0_setFairWith 25 = .ok (.iload_n 1, 1) := by decide +kernel
theorem dX0_setFairWith_26 : decode cX0_setFairWith 26 = .ok (.invokevirtual 69, 3) := by decide +kernel
theorem dX0_setFairWith_29 : decode cX0_setFairWith 29 = .ok (.if_icmp .ne 9, 3) := by decide +kernel
theorem dX0_setFairWith_32 : decode cX0_setFairWith 32 = .ok (.iload_n 2, 1) := by decide +kernel
theorem dX0_setFairWith_33 : decode cX0_setFairWith 33 = .ok (.iconst 1, 1) := by decide +kernel
theorem dX0_setFairWith_34 : decode cX0_setFairWith 34 = .ok (.iload_n 3, 1) := by decide +kernel
theorem dX0_setFairWith_35 : decode cX0_setFairWith 35 = .ok (.ishl, 1) := by decide +kernel
theorem dX0_setFairWith_36 : decode cX0_setFairWith 36 = .ok (.ior, 1) := by decide +kernel
theorem dX0_setFairWith_37 : decode cX0_setFairWith 37 = .ok (.istore_n 2, 1) := by decide +kernel
theorem dX0_setFairWith_38 : decode cX0_setFairWith 38 = .ok (.iinc 3 1, 3) := by decide +kernel
theorem dX0_setFairWith_41 : decode cX0_setFairWith 41 = .ok (.goto (-37), 3) := by decide +kernel
theorem dX0_setFairWith_44 : decode cX0_setFairWith 44 = .ok (.iload_n 2, 1) := by decide +kernel
theorem dX0_setFairWith_45 : decode cX0_setFairWith 45 = .ok (.ireturn, 1) := by decide +kernel
set_option maxHeartbeats 400000 in
set_option maxRecDepth 20000 in
theorem t_X0_setFairWith (l : Launch) (ad : Nat → Nat) (D : va_G) (cs : Nat → ClassId) (g : Nat → Nat) (σ : Nat → Nat → Int32) (pre post : va_W) (n : Nat) (o : Nat) (hN : σ 0 0 = nI n) (hn : n ≤ 8) (ho : o < n) (hR : rgM n (σ 0)) : CTi l yX0_setFairWith cX0_setFairWith 4 .int ({ frames := 3, cells := 0, slots := 0, locals := 68 }) ad D (tysW cs) (pre ++ (wK cs g (σ 0) ++ post)) [.ref (g 0), .int (nI o)] (fairF (σ 0) o n) (pre ++ (wK cs g (σ 0) ++ post)) := by
  refine CTi.of (lv0 := [(0, .ref (g 0)), (1, .int (nI o))]) (by decide) rfl (Nat.le_of_ble_eq_true rfl) (fun p e s m args below meth c A C hr hlk => ?_)
  have C : Cx p s m args c cX0_setFairWith 4 RX0 ad D (tysW cs) A := C
  refine r_iconst (pc := 0) C 0 dX0_setFairWith_0 (by decide) ?_
  refine r_istore_n (pc := 1) C [(2, .int 0), (0, .ref (g 0)), (1, .int (nI o))] dX0_setFairWith_1 rfl (by decide) rfl ?_
  refine r_iconst (pc := 2) C 0 dX0_setFairWith_2 (by decide) ?_
  refine r_istore_n (pc := 3) C [(3, .int 0), (2, .int 0), (0, .ref (g 0)), (1, .int (nI o))] dX0_setFairWith_3 rfl (by decide) rfl ?_
  refine r_pick (lv' := [(0, .ref (g 0)), (1, .int (nI o)), (2, .int 0), (3, .int 0)]) [2, 3, 1, 0] rfl ?_
  refine r_lv (lv' := [(0, .ref (g 0)), (1, .int (nI o)), (2, .int (fairF (σ 0) o 0)), (3, .int 0)]) (rfl) ?_
  refine r_loop (blkf := fun i => wK cs g (σ 0)) (lvf := fun i => [(0, .ref (g 0)), (1, .int (nI o)), (2, .int (fairF (σ 0) o i)), (3, .int (nI i))]) (fun i => True) n 0 (by omega) (trivial) (fun i h_i _ ih_4 => ?_)
  show VX p l e _ s m args below meth c _ D A 4 pre (wK cs g (σ 0)) post 4 [(0, .ref (g 0)), (1, .int (nI o)), (2, .int (fairF (σ 0) o i)), (3, .int (nI i))] []
  refine r_iload_n (pc := 4) C 3 dX0_setFairWith_4 rfl rfl ?_
  refine r_aload_n (pc := 5) C 0 dX0_setFairWith_5 rfl rfl ?_
  refine kg_count (pc := 6) C fl_RX0_38 dX0_setFairWith_6 (σ 0 0) rfl ?_
  refine r_eqi (y := nI n) (hN) ?_
  refine r_icmp_ge (pc := 9) C 44 dX0_setFairWith_9 (by decide) (fun c_1 => ?_) (fun c_1 => ?_)
  · skip
    have c_1 := nIc_ge_t (a := i) (b := n) (by omega) (by omega) c_1
    obtain rfl : n = i := by omega
    refine r_iload_n (pc := 44) C 2 dX0_setFairWith_44 rfl rfl ?_
    exact r_iret (pc := 45) C hr hlk dX0_setFairWith_45 rfl rfl rfl
  · skip
    have c_1 := nIc_ge_f (a := i) (b := n) (by omega) (by omega) c_1
    refine r_iload_n (pc := 12) C 3 dX0_setFairWith_12 rfl rfl ?_
    refine r_iload_n (pc := 13) C 1 dX0_setFairWith_13 rfl rfl ?_
    refine r_icmp_eq (pc := 14) C 38 dX0_setFairWith_14 (by decide) (fun c_2 => ?_) (fun c_2 => ?_)
    · skip
      have c_2 := nIc_eq_t (a := i) (b := o) (by omega) (by omega) c_2
      refine r_iinc (pc := 38) C (nI (i + 1)) 3 [(3, .int (nI (i + 1))), (0, .ref (g 0)), (1, .int (nI o)), (2, .int (fairF (σ 0) o i))] dX0_setFairWith_38 rfl (nI_1 _) (by decide) rfl ?_
      refine r_goto (pc := 41) C 4 dX0_setFairWith_41 (by decide) ?_
      refine r_pick (lv' := [(0, .ref (g 0)), (1, .int (nI o)), (2, .int (fairF (σ 0) o i)), (3, .int (nI (i + 1)))]) [1, 2, 3, 0] rfl ?_
      refine r_lv (lv' := [(0, .ref (g 0)), (1, .int (nI o)), (2, .int (fairF (σ 0) o (i + 1))), (3, .int (nI (i + 1)))]) (lvc rfl (lvc rfl (lvc (congrArg Value.int (show (fairF (σ 0) o i : Int32) = fairF (σ 0) o (i + 1) from (by simp [fairF, bitI, *]))) (lvc rfl rfl)))) ?_
      exact ih_4 (by omega) (trivial)
    · skip
      have c_2 := nIc_eq_f (a := i) (b := o) (by omega) (by omega) c_2
      refine r_aload_n (pc := 17) C 0 dX0_setFairWith_17 rfl rfl ?_
      refine r_iload_n (pc := 18) C 1 dX0_setFairWith_18 rfl rfl ?_
      refine r_iload_n (pc := 19) C 3 dX0_setFairWith_19 rfl rfl ?_
      refine rc_Vi (pc := 20) C (t_X0_offers' l ad D cs g (fun _ => σ 0) pre post (σ 0) (rfl) n o i hN hn ho (by omega) hR) mv_X0_offers ml_RX0_69 rfl ⟨Nat.le_of_ble_eq_true rfl, Nat.le_of_ble_eq_true rfl⟩ ⟨rfl, rfl⟩ (q0 := 0) rfl rfl rfl rfl rfl rfl (Nat.le_of_ble_eq_true rfl) dX0_setFairWith_20 ?_
      refine r_aload_n (pc := 23) C 0 dX0_setFairWith_23 rfl rfl ?_
      refine r_iload_n (pc := 24) C 3 dX0_setFairWith_24 rfl rfl ?_
      refine r_iload_n (pc := 25) C 1 dX0_setFairWith_25 rfl rfl ?_
      refine rc_Vi (pc := 26) C (t_X0_offers' l ad D cs g (fun _ => σ 0) pre post (σ 0) (rfl) n i o hN hn (by omega) ho hR) mv_X0_offers ml_RX0_69 rfl ⟨Nat.le_of_ble_eq_true rfl, Nat.le_of_ble_eq_true rfl⟩ ⟨rfl, rfl⟩ (q0 := 0) rfl rfl rfl rfl rfl rfl (Nat.le_of_ble_eq_true rfl) dX0_setFairWith_26 ?_
      refine r_icmp_ne (pc := 29) C 38 dX0_setFairWith_29 (by decide) (fun c_3 => ?_) (fun c_3 => ?_)
      · skip
        refine r_iinc (pc := 38) C (nI (i + 1)) 3 [(3, .int (nI (i + 1))), (0, .ref (g 0)), (1, .int (nI o)), (2, .int (fairF (σ 0) o i))] dX0_setFairWith_38 rfl (nI_1 _) (by decide) rfl ?_
        refine r_goto (pc := 41) C 4 dX0_setFairWith_41 (by decide) ?_
        refine r_pick (lv' := [(0, .ref (g 0)), (1, .int (nI o)), (2, .int (fairF (σ 0) o i)), (3, .int (nI (i + 1)))]) [1, 2, 3, 0] rfl ?_
        refine r_lv (lv' := [(0, .ref (g 0)), (1, .int (nI o)), (2, .int (fairF (σ 0) o (i + 1))), (3, .int (nI (i + 1)))]) (lvc rfl (lvc rfl (lvc (congrArg Value.int (show (fairF (σ 0) o i : Int32) = fairF (σ 0) o (i + 1) from (by simp [fairF, bitI, *]))) (lvc rfl rfl)))) ?_
        exact ih_4 (by omega) (trivial)
      · skip
        refine r_iload_n (pc := 32) C 2 dX0_setFairWith_32 rfl rfl ?_
        refine r_iconst (pc := 33) C 1 dX0_setFairWith_33 (by decide) ?_
        refine r_iload_n (pc := 34) C 3 dX0_setFairWith_34 rfl rfl ?_
        refine r_ishl (pc := 35) C dX0_setFairWith_35 ?_
        refine r_ior (pc := 36) C dX0_setFairWith_36 ?_
        refine r_istore_n (pc := 37) C [(2, .int ((fairF (σ 0) o i) ||| (1 <<< ((nI i) &&& 31)))), (0, .ref (g 0)), (1, .int (nI o)), (3, .int (nI i))] dX0_setFairWith_37 rfl (by decide) rfl ?_
        refine r_iinc (pc := 38) C (nI (i + 1)) 3 [(3, .int (nI (i + 1))), (2, .int ((fairF (σ 0) o i) ||| (1 <<< ((nI i) &&& 31)))), (0, .ref (g 0)), (1, .int (nI o))] dX0_setFairWith_38 rfl (nI_1 _) (by decide) rfl ?_
        refine r_goto (pc := 41) C 4 dX0_setFairWith_41 (by decide) ?_
        refine r_pick (lv' := [(0, .ref (g 0)), (1, .int (nI o)), (2, .int ((fairF (σ 0) o i) ||| (1 <<< ((nI i) &&& 31)))), (3, .int (nI (i + 1)))]) [2, 3, 1, 0] rfl ?_
        refine r_lv (lv' := [(0, .ref (g 0)), (1, .int (nI o)), (2, .int (fairF (σ 0) o (i + 1))), (3, .int (nI (i + 1)))]) (lvc rfl (lvc rfl (lvc (congrArg Value.int (show ((fairF (σ 0) o i) ||| (1 <<< ((nI i) &&& 31)) : Int32) = fairF (σ 0) o (i + 1) from (by simp [fairF, bitI, *]))) (lvc rfl rfl)))) ?_
        exact ih_4 (by omega) (trivial)
theorem t_X0_setFairWith' (l : Launch) (ad : Nat → Nat) (D : va_G) (cs : Nat → ClassId) (g : Nat → Nat) (σ : Nat → Nat → Int32) (pre post : va_W) (f0_ : Nat → Int32) (e0_ : σ 0 = f0_) (n : Nat) (o : Nat) (hN : f0_ 0 = nI n) (hn : n ≤ 8) (ho : o < n) (hR : rgM n f0_) : CTi l yX0_setFairWith cX0_setFairWith 4 .int ({ frames := 3, cells := 0, slots := 0, locals := 68 }) ad D (tysW cs) (pre ++ (wK cs g f0_ ++ post)) [.ref (g 0), .int (nI o)] (fairF f0_ o n) (pre ++ (wK cs g f0_ ++ post)) := by
  subst e0_
  exact t_X0_setFairWith l ad D cs g σ pre post n o hN hn ho hR
theorem dX0_worthOfPair_0 : decode cX0_worthOfPair 0 = .ok (.iconst 0, 1) := by decide +kernel
theorem dX0_worthOfPair_1 : decode cX0_worthOfPair 1 = .ok (.aload_n 0, 1) := by decide +kernel
theorem dX0_worthOfPair_2 : decode cX0_worthOfPair 2 = .ok (.iload_n 1, 1) := by decide +kernel
theorem dX0_worthOfPair_3 : decode cX0_worthOfPair 3 = .ok (.iload_n 2, 1) := by decide +kernel
theorem dX0_worthOfPair_4 : decode cX0_worthOfPair 4 = .ok (.invokevirtual 69, 3) := by decide +kernel
theorem dX0_worthOfPair_7 : decode cX0_worthOfPair 7 = .ok (.invokestatic 99, 3) := by decide +kernel
theorem dX0_worthOfPair_10 : decode cX0_worthOfPair 10 = .ok (.iconst 0, 1) := by decide +kernel
theorem dX0_worthOfPair_11 : decode cX0_worthOfPair 11 = .ok (.aload_n 0, 1) := by decide +kernel
theorem dX0_worthOfPair_12 : decode cX0_worthOfPair 12 = .ok (.iload_n 2, 1) := by decide +kernel
theorem dX0_worthOfPair_13 : decode cX0_worthOfPair 13 = .ok (.iload_n 1, 1) := by decide +kernel
theorem dX0_worthOfPair_14 : decode cX0_worthOfPair 14 = .ok (.invokevirtual 69, 3) := by decide +kernel
theorem dX0_worthOfPair_17 : decode cX0_worthOfPair 17 = .ok (.invokestatic 99, 3) := by decide +kernel
theorem dX0_worthOfPair_20 : decode cX0_worthOfPair 20 = .ok (.iadd, 1) := by decide +kernel
theorem dX0_worthOfPair_21 : decode cX0_worthOfPair 21 = .ok (.ireturn, 1) := by decide +kernel
set_option maxHeartbeats 400000 in
set_option maxRecDepth 20000 in
theorem t_X0_worthOfPair (l : Launch) (ad : Nat → Nat) (D : va_G) (cs : Nat → ClassId) (g : Nat → Nat) (σ : Nat → Nat → Int32) (pre post : va_W) (n : Nat) (a b : Nat) (hN : σ 0 0 = nI n) (hn : n ≤ 8) (ha : a < n) (hb : b < n) (hR : rgM n (σ 0)) : CTi l yX0_worthOfPair cX0_worthOfPair 3 .int ({ frames := 3, cells := 0, slots := 0, locals := 68 }) ad D (tysW cs) (pre ++ (wK cs g (σ 0) ++ post)) [.ref (g 0), .int (nI a), .int (nI b)] (woF (σ 0) a b) (pre ++ (wK cs g (σ 0) ++ post)) := by
  refine CTi.of (lv0 := [(0, .ref (g 0)), (1, .int (nI a)), (2, .int (nI b))]) (by decide) rfl (Nat.le_of_ble_eq_true rfl) (fun p e s m args below meth c A C hr hlk => ?_)
  have C : Cx p s m args c cX0_worthOfPair 3 RX0 ad D (tysW cs) A := C
  refine r_iconst (pc := 0) C 0 dX0_worthOfPair_0 (by decide) ?_
  refine r_aload_n (pc := 1) C 0 dX0_worthOfPair_1 rfl rfl ?_
  refine r_iload_n (pc := 2) C 1 dX0_worthOfPair_2 rfl rfl ?_
  refine r_iload_n (pc := 3) C 2 dX0_worthOfPair_3 rfl rfl ?_
  refine rc_Vi (pc := 4) C (t_X0_offers' l ad D cs g (fun _ => σ 0) pre post (σ 0) (rfl) n a b hN hn ha hb hR) mv_X0_offers ml_RX0_69 rfl ⟨Nat.le_of_ble_eq_true rfl, Nat.le_of_ble_eq_true rfl⟩ ⟨rfl, rfl⟩ (q0 := 0) rfl rfl rfl rfl rfl rfl (Nat.le_of_ble_eq_true rfl) dX0_worthOfPair_4 ?_
  refine r_mmax (pc := 7) C ml_RX0_99' (Nat.le_of_ble_eq_true rfl) (Nat.le_of_ble_eq_true rfl) (Nat.le_of_ble_eq_true rfl) dX0_worthOfPair_7 ?_
  refine r_eqi (y := mxI 0 (offersF (σ 0) a b)) (mmax_mx _ _) ?_
  refine r_iconst (pc := 10) C 0 dX0_worthOfPair_10 (by decide) ?_
  refine r_aload_n (pc := 11) C 0 dX0_worthOfPair_11 rfl rfl ?_
  refine r_iload_n (pc := 12) C 2 dX0_worthOfPair_12 rfl rfl ?_
  refine r_iload_n (pc := 13) C 1 dX0_worthOfPair_13 rfl rfl ?_
  refine rc_Vi (pc := 14) C (t_X0_offers' l ad D cs g (fun _ => σ 0) pre post (σ 0) (rfl) n b a hN hn hb ha hR) mv_X0_offers ml_RX0_69 rfl ⟨Nat.le_of_ble_eq_true rfl, Nat.le_of_ble_eq_true rfl⟩ ⟨rfl, rfl⟩ (q0 := 0) rfl rfl rfl rfl rfl rfl (Nat.le_of_ble_eq_true rfl) dX0_worthOfPair_14 ?_
  refine r_mmax (pc := 17) C ml_RX0_99' (Nat.le_of_ble_eq_true rfl) (Nat.le_of_ble_eq_true rfl) (Nat.le_of_ble_eq_true rfl) dX0_worthOfPair_17 ?_
  refine r_eqi (y := mxI 0 (offersF (σ 0) b a)) (mmax_mx _ _) ?_
  refine r_iadd (pc := 20) C dX0_worthOfPair_20 ?_
  exact r_iret (pc := 21) C hr hlk dX0_worthOfPair_21 rfl rfl rfl
theorem t_X0_worthOfPair' (l : Launch) (ad : Nat → Nat) (D : va_G) (cs : Nat → ClassId) (g : Nat → Nat) (σ : Nat → Nat → Int32) (pre post : va_W) (f0_ : Nat → Int32) (e0_ : σ 0 = f0_) (n : Nat) (a b : Nat) (hN : f0_ 0 = nI n) (hn : n ≤ 8) (ha : a < n) (hb : b < n) (hR : rgM n f0_) : CTi l yX0_worthOfPair cX0_worthOfPair 3 .int ({ frames := 3, cells := 0, slots := 0, locals := 68 }) ad D (tysW cs) (pre ++ (wK cs g f0_ ++ post)) [.ref (g 0), .int (nI a), .int (nI b)] (woF f0_ a b) (pre ++ (wK cs g f0_ ++ post)) := by
  subst e0_
  exact t_X0_worthOfPair l ad D cs g σ pre post n a b hN hn ha hb hR
theorem dX0_frayWebs_0 : decode cX0_frayWebs 0 = .ok (.iconst 0, 1) := by decide +kernel
theorem dX0_frayWebs_1 : decode cX0_frayWebs 1 = .ok (.istore_n 1, 1) := by decide +kernel
theorem dX0_frayWebs_2 : decode cX0_frayWebs 2 = .ok (.iload_n 1, 1) := by decide +kernel
theorem dX0_frayWebs_3 : decode cX0_frayWebs 3 = .ok (.aload_n 0, 1) := by decide +kernel
theorem dX0_frayWebs_4 : decode cX0_frayWebs 4 = .ok (.getfield 38, 3) := by decide +kernel
theorem dX0_frayWebs_7 : decode cX0_frayWebs 7 = .ok (.if_icmp .ge 36, 3) := by decide +kernel
theorem dX0_frayWebs_10 : decode cX0_frayWebs 10 = .ok (.aload_n 0, 1) := by decide +kernel
theorem dX0_frayWebs_11 : decode cX0_frayWebs 11 = .ok (.getfield 25, 3) := by decide +kernel
theorem dX0_frayWebs_14 : decode cX0_frayWebs 14 = .ok (.iconst 3, 1) := by decide +kernel
theorem dX0_frayWebs_15 : decode cX0_frayWebs 15 = .ok (.aaload, 1) := by decide +kernel
theorem dX0_frayWebs_16 : decode cX0_frayWebs 16 = .ok (.iload_n 1, 1) := by decide +kernel
theorem dX0_frayWebs_17 : decode cX0_frayWebs 17 = .ok (.aload_n 0, 1) := by decide +kernel
theorem dX0_frayWebs_18 : decode cX0_frayWebs 18 = .ok (.getfield 25, 3) := by decide +kernel
theorem dX0_frayWebs_21 : decode cX0_frayWebs 21 = .ok (.iconst 3, 1) := by decide +kernel
theorem dX0_frayWebs_22 : decode cX0_frayWebs 22 = .ok (.aaload, 1) := by decide +kernel
theorem dX0_frayWebs_23 : decode cX0_frayWebs 23 = .ok (.iload_n 1, 1) := by decide +kernel
theorem dX0_frayWebs_24 : decode cX0_frayWebs 24 = .ok (.iaload, 1) := by decide +kernel
theorem dX0_frayWebs_25 : decode cX0_frayWebs 25 = .ok (.aload_n 0, 1) := by decide +kernel
theorem dX0_frayWebs_26 : decode cX0_frayWebs 26 = .ok (.iload_n 1, 1) := by decide +kernel
theorem dX0_frayWebs_27 : decode cX0_frayWebs 27 = .ok (.invokevirtual 81, 3) := by decide +kernel
theorem dX0_frayWebs_30 : decode cX0_frayWebs 30 = .ok (.isub, 1) := by decide +kernel
theorem dX0_frayWebs_31 : decode cX0_frayWebs 31 = .ok (.bipush 99, 2) := by decide +kernel
theorem dX0_frayWebs_33 : decode cX0_frayWebs 33 = .ok (.invokestatic 72, 3) := by decide +kernel
theorem dX0_frayWebs_36 : decode cX0_frayWebs 36 = .ok (.iastore, 1) := by decide +kernel
theorem dX0_frayWebs_37 : decode cX0_frayWebs 37 = .ok (.iinc 1 1, 3) := by decide +kernel
theorem dX0_frayWebs_40 : decode cX0_frayWebs 40 = .ok (.goto (-38), 3) := by decide +kernel
theorem dX0_frayWebs_43 : decode cX0_frayWebs 43 = .ok (.return_, 1) := by decide +kernel
set_option maxHeartbeats 400000 in
set_option maxRecDepth 20000 in
theorem t_X0_frayWebs (l : Launch) (ad : Nat → Nat) (D : va_G) (cs : Nat → ClassId) (g : Nat → Nat) (σ : Nat → Nat → Int32) (pre post : va_W) (n : Nat) (hN : σ 0 0 = nI n) (hn : n ≤ 8) : CTv l yX0_frayWebs cX0_frayWebs 2 ({ frames := 2, cells := 0, slots := 0, locals := 42 }) ad D (tysW cs) (pre ++ (wK cs g (σ 0) ++ post)) [.ref (g 0)] (pre ++ (wK cs g (frayN (σ 0) n) ++ post)) := by
  refine CTv.of (lv0 := [(0, .ref (g 0))]) (by decide) rfl (Nat.le_of_ble_eq_true rfl) (fun p e s m args below meth c A C hr hlk => ?_)
  have C : Cx p s m args c cX0_frayWebs 2 RX0 ad D (tysW cs) A := C
  refine r_iconst (pc := 0) C 0 dX0_frayWebs_0 (by decide) ?_
  refine r_istore_n (pc := 1) C [(1, .int 0), (0, .ref (g 0))] dX0_frayWebs_1 rfl (by decide) rfl ?_
  refine r_pick (lv' := [(0, .ref (g 0)), (1, .int 0)]) [1, 0] rfl ?_
  refine r_blk (blk' := wK cs g (frayN (σ 0) 0)) (rfl) ?_
  refine r_loop (blkf := fun i => wK cs g (frayN (σ 0) i)) (lvf := fun i => [(0, .ref (g 0)), (1, .int (nI i))]) (fun i => True) n 0 (by omega) (trivial) (fun i h_i _ ih_2 => ?_)
  show VX p l e _ s m args below meth c _ D A 2 pre (wK cs g (frayN (σ 0) i)) post 2 [(0, .ref (g 0)), (1, .int (nI i))] []
  refine r_iload_n (pc := 2) C 1 dX0_frayWebs_2 rfl rfl ?_
  refine r_aload_n (pc := 3) C 0 dX0_frayWebs_3 rfl rfl ?_
  refine kg_count (pc := 4) C fl_RX0_38 dX0_frayWebs_4 (frayN (σ 0) i 0) rfl ?_
  refine r_eqi (y := nI n) ((frayN_0 hN)) ?_
  refine r_icmp_ge (pc := 7) C 43 dX0_frayWebs_7 (by decide) (fun c_1 => ?_) (fun c_1 => ?_)
  · skip
    have c_1 := nIc_ge_t (a := i) (b := n) (by omega) (by omega) c_1
    obtain rfl : n = i := by omega
    exact r_vret (pc := 43) C hr hlk dX0_frayWebs_43 rfl
  · skip
    have c_1 := nIc_ge_f (a := i) (b := n) (by omega) (by omega) c_1
    refine r_aload_n (pc := 10) C 0 dX0_frayWebs_10 rfl rfl ?_
    refine kg_has (pc := 11) C fl_RX0_25 dX0_frayWebs_11 ?_
    refine r_iconst (pc := 14) C 3 dX0_frayWebs_14 (by decide) ?_
    refine ka_has (pc := 15) C 3 (rfl) (by omega) dX0_frayWebs_15 ?_
    refine r_iload_n (pc := 16) C 1 dX0_frayWebs_16 rfl rfl ?_
    refine r_aload_n (pc := 17) C 0 dX0_frayWebs_17 rfl rfl ?_
    refine kg_has (pc := 18) C fl_RX0_25 dX0_frayWebs_18 ?_
    refine r_iconst (pc := 21) C 3 dX0_frayWebs_21 (by decide) ?_
    refine ka_has (pc := 22) C 3 (rfl) (by omega) dX0_frayWebs_22 ?_
    refine r_iload_n (pc := 23) C 1 dX0_frayWebs_23 rfl rfl ?_
    refine kl_row (pc := 24) C 3 (by decide) i (rfl) (by omega) dX0_frayWebs_24 (frayN (σ 0) i (8 + 5 * i + 3)) rfl ?_
    refine r_aload_n (pc := 25) C 0 dX0_frayWebs_25 rfl rfl ?_
    refine r_iload_n (pc := 26) C 1 dX0_frayWebs_26 rfl rfl ?_
    refine rc_Vi (pc := 27) C (t_X0_frays' l ad D cs g (fun _ => frayN (σ 0) i) pre post (frayN (σ 0) i) (rfl) n i (frayN_0 hN) hn (by omega)) mv_X0_frays ml_RX0_81 rfl ⟨Nat.le_of_ble_eq_true rfl, Nat.le_of_ble_eq_true rfl⟩ ⟨rfl, rfl⟩ (q0 := 0) rfl rfl rfl rfl rfl rfl (Nat.le_of_ble_eq_true rfl) dX0_frayWebs_27 ?_
    refine r_isub (pc := 30) C dX0_frayWebs_30 ?_
    refine r_bipush (pc := 31) C 99 dX0_frayWebs_31 (by decide) ?_
    refine rc_Ni (pc := 33) C (t_X5_held l ad D (tysW cs) (wK cs g (frayN (σ 0) i)) pre post  ((frayN (σ 0) i (8 + 5 * i + 3)) - (fraysF (frayN (σ 0) i) i)) (99 : Int32) ) ms_X5_held (C_nw C).2.2.2.2.2.2.2.1 rfl ⟨Nat.le_of_ble_eq_true rfl, Nat.le_of_ble_eq_true rfl⟩ ⟨rfl, rfl⟩ rfl rfl rfl (Nat.le_of_ble_eq_true rfl) dX0_frayWebs_33 ?_
    refine r_eqi (y := heldI ((frayN (σ 0) i (8 + 5 * i + 3)) - (fraysF (frayN (σ 0) i) i))) (held_mx _) ?_
    refine ks_row (pc := 36) C 3 (by decide) i (rfl) (by omega) dX0_frayWebs_36 (8 + 5 * i + 3) rfl ?_
    refine r_iinc (pc := 37) C (nI (i + 1)) 1 [(1, .int (nI (i + 1))), (0, .ref (g 0))] dX0_frayWebs_37 rfl (nI_1 _) (by decide) rfl ?_
    refine r_goto (pc := 40) C 2 dX0_frayWebs_40 (by decide) ?_
    refine r_pick (lv' := [(0, .ref (g 0)), (1, .int (nI (i + 1)))]) [1, 0] rfl ?_
    refine r_blk (blk' := wK cs g (frayN (σ 0) (i + 1))) (rfl) ?_
    exact ih_2 (by omega) (trivial)
theorem t_X0_frayWebs' (l : Launch) (ad : Nat → Nat) (D : va_G) (cs : Nat → ClassId) (g : Nat → Nat) (σ : Nat → Nat → Int32) (pre post : va_W) (f0_ : Nat → Int32) (e0_ : σ 0 = f0_) (n : Nat) (hN : f0_ 0 = nI n) (hn : n ≤ 8) : CTv l yX0_frayWebs cX0_frayWebs 2 ({ frames := 2, cells := 0, slots := 0, locals := 42 }) ad D (tysW cs) (pre ++ (wK cs g f0_ ++ post)) [.ref (g 0)] (pre ++ (wK cs g (frayN f0_ n) ++ post)) := by
  subst e0_
  exact t_X0_frayWebs l ad D cs g σ pre post n hN hn
theorem dX0_changePlaces_0 : decode cX0_changePlaces 0 = .ok (.iconst 0, 1) := by decide +kernel
theorem dX0_changePlaces_1 : decode cX0_changePlaces 1 = .ok (.istore_n 3, 1) := by decide +kernel
theorem dX0_changePlaces_2 : decode cX0_changePlaces 2 = .ok (.iload_n 3, 1) := by decide +kernel
theorem dX0_changePlaces_3 : decode cX0_changePlaces 3 = .ok (.iconst 5, 1) := by decide +kernel
theorem dX0_changePlaces_4 : decode cX0_changePlaces 4 = .ok (.if_icmp .ge 45, 3) := by decide +kernel
theorem dX0_changePlaces_7 : decode cX0_changePlaces 7 = .ok (.aload_n 0, 1) := by decide +kernel
theorem dX0_changePlaces_8 : decode cX0_changePlaces 8 = .ok (.getfield 25, 3) := by decide +kernel
theorem dX0_changePlaces_11 : decode cX0_changePlaces 11 = .ok (.iload_n 3, 1) := by decide +kernel
theorem dX0_changePlaces_12 : decode cX0_changePlaces 12 = .ok (.aaload, 1) := by decide +kernel
theorem dX0_changePlaces_13 : decode cX0_changePlaces 13 = .ok (.iload_n 1, 1) := by decide +kernel
theorem dX0_changePlaces_14 : decode cX0_changePlaces 14 = .ok (.iaload, 1) := by decide +kernel
theorem dX0_changePlaces_15 : decode cX0_changePlaces 15 = .ok (.istore 4, 2) := by decide +kernel
theorem dX0_changePlaces_17 : decode cX0_changePlaces 17 = .ok (.aload_n 0, 1) := by decide +kernel
theorem dX0_changePlaces_18 : decode cX0_changePlaces 18 = .ok (.getfield 25, 3) := by decide +kernel
theorem dX0_changePlaces_21 : decode cX0_changePlaces 21 = .ok (.iload_n 3, 1) := by decide +kernel
theorem dX0_changePlaces_22 : decode cX0_changePlaces 22 = .ok (.aaload, 1) := by decide +kernel
theorem dX0_changePlaces_23 : decode cX0_changePlaces 23 = .ok (.iload_n 1, 1) := by decide +kernel
theorem dX0_changePlaces_24 : decode cX0_changePlaces 24 = .ok (.aload_n 0, 1) := by decide +kernel
theorem dX0_changePlaces_25 : decode cX0_changePlaces 25 = .ok (.getfield 25, 3) := by decide +kernel
theorem dX0_changePlaces_28 : decode cX0_changePlaces 28 = .ok (.iload_n 3, 1) := by decide +kernel
theorem dX0_changePlaces_29 : decode cX0_changePlaces 29 = .ok (.aaload, 1) := by decide +kernel
theorem dX0_changePlaces_30 : decode cX0_changePlaces 30 = .ok (.iload_n 2, 1) := by decide +kernel
theorem dX0_changePlaces_31 : decode cX0_changePlaces 31 = .ok (.iaload, 1) := by decide +kernel
theorem dX0_changePlaces_32 : decode cX0_changePlaces 32 = .ok (.iastore, 1) := by decide +kernel
theorem dX0_changePlaces_33 : decode cX0_changePlaces 33 = .ok (.aload_n 0, 1) := by decide +kernel
theorem dX0_changePlaces_34 : decode cX0_changePlaces 34 = .ok (.getfield 25, 3) := by decide +kernel
theorem dX0_changePlaces_37 : decode cX0_changePlaces 37 = .ok (.iload_n 3, 1) := by decide +kernel
theorem dX0_changePlaces_38 : decode cX0_changePlaces 38 = .ok (.aaload, 1) := by decide +kernel
theorem dX0_changePlaces_39 : decode cX0_changePlaces 39 = .ok (.iload_n 2, 1) := by decide +kernel
theorem dX0_changePlaces_40 : decode cX0_changePlaces 40 = .ok (.iload 4, 2) := by decide +kernel
theorem dX0_changePlaces_42 : decode cX0_changePlaces 42 = .ok (.iastore, 1) := by decide +kernel
theorem dX0_changePlaces_43 : decode cX0_changePlaces 43 = .ok (.iinc 3 1, 3) := by decide +kernel
theorem dX0_changePlaces_46 : decode cX0_changePlaces 46 = .ok (.goto (-44), 3) := by decide +kernel
theorem dX0_changePlaces_49 : decode cX0_changePlaces 49 = .ok (.return_, 1) := by decide +kernel
set_option maxHeartbeats 400000 in
set_option maxRecDepth 20000 in
theorem t_X0_changePlaces (l : Launch) (ad : Nat → Nat) (D : va_G) (cs : Nat → ClassId) (g : Nat → Nat) (σ : Nat → Nat → Int32) (pre post : va_W) (n : Nat) (a b : Nat) (hN : σ 0 0 = nI n) (hn : n ≤ 8) (ha : a < n) (hb : b < n) (hab : a ≠ b) : CTv l yX0_changePlaces cX0_changePlaces 5 ({ frames := 0, cells := 0, slots := 0, locals := 0 }) ad D (tysW cs) (pre ++ (wK cs g (σ 0) ++ post)) [.ref (g 0), .int (nI a), .int (nI b)] (pre ++ (wK cs g (chgF (σ 0) a b 5) ++ post)) := by
  refine CTv.of (lv0 := [(0, .ref (g 0)), (1, .int (nI a)), (2, .int (nI b))]) (by decide) rfl (Nat.le_of_ble_eq_true rfl) (fun p e s m args below meth c A C hr hlk => ?_)
  have C : Cx p s m args c cX0_changePlaces 5 RX0 ad D (tysW cs) A := C
  refine r_iconst (pc := 0) C 0 dX0_changePlaces_0 (by decide) ?_
  refine r_istore_n (pc := 1) C [(3, .int 0), (0, .ref (g 0)), (1, .int (nI a)), (2, .int (nI b))] dX0_changePlaces_1 rfl (by decide) rfl ?_
  refine r_pick (lv' := [(0, .ref (g 0)), (1, .int (nI a)), (2, .int (nI b)), (3, .int 0)]) [1, 2, 3, 0] rfl ?_
  refine r_blk (blk' := wK cs g (chgF (σ 0) a b 0)) (rfl) ?_
  refine r_loop (blkf := fun k => wK cs g (chgF (σ 0) a b k)) (lvf := fun k => [(0, .ref (g 0)), (1, .int (nI a)), (2, .int (nI b)), (3, .int (nI k))]) (fun k => True) 5 0 (by omega) (trivial) (fun k h_k _ ih_2 => ?_)
  show VX p l e _ s m args below meth c _ D A 5 pre (wK cs g (chgF (σ 0) a b k)) post 2 [(0, .ref (g 0)), (1, .int (nI a)), (2, .int (nI b)), (3, .int (nI k))] []
  refine r_iload_n (pc := 2) C 3 dX0_changePlaces_2 rfl rfl ?_
  refine r_iconst (pc := 3) C 5 dX0_changePlaces_3 (by decide) ?_
  refine r_icmp_ge (pc := 4) C 49 dX0_changePlaces_4 (by decide) (fun c_1 => ?_) (fun c_1 => ?_)
  · skip
    have c_1 := nIc_ge_t (a := k) (b := 5) (by omega) (by omega) c_1
    obtain rfl : k = 5 := by omega
    exact r_vret (pc := 49) C hr hlk dX0_changePlaces_49 rfl
  · skip
    have c_1 := nIc_ge_f (a := k) (b := 5) (by omega) (by omega) c_1
    refine r_aload_n (pc := 7) C 0 dX0_changePlaces_7 rfl rfl ?_
    refine kg_has (pc := 8) C fl_RX0_25 dX0_changePlaces_8 ?_
    refine r_iload_n (pc := 11) C 3 dX0_changePlaces_11 rfl rfl ?_
    refine ka_has (pc := 12) C k (rfl) (by omega) dX0_changePlaces_12 ?_
    refine r_iload_n (pc := 13) C 1 dX0_changePlaces_13 rfl rfl ?_
    refine kl_row (pc := 14) C k (by omega) a (rfl) (by omega) dX0_changePlaces_14 (chgF (σ 0) a b k (8 + 5 * a + k)) rfl ?_
    refine r_istore (pc := 15) C [(4, .int (chgF (σ 0) a b k (8 + 5 * a + k))), (0, .ref (g 0)), (1, .int (nI a)), (2, .int (nI b)), (3, .int (nI k))] dX0_changePlaces_15 (by decide) rfl ?_
    refine r_aload_n (pc := 17) C 1 dX0_changePlaces_17 rfl rfl ?_
    refine kg_has (pc := 18) C fl_RX0_25 dX0_changePlaces_18 ?_
    refine r_iload_n (pc := 21) C 4 dX0_changePlaces_21 rfl rfl ?_
    refine ka_has (pc := 22) C k (rfl) (by omega) dX0_changePlaces_22 ?_
    refine r_iload_n (pc := 23) C 2 dX0_changePlaces_23 rfl rfl ?_
    refine r_aload_n (pc := 24) C 1 dX0_changePlaces_24 rfl rfl ?_
    refine kg_has (pc := 25) C fl_RX0_25 dX0_changePlaces_25 ?_
    refine r_iload_n (pc := 28) C 4 dX0_changePlaces_28 rfl rfl ?_
    refine ka_has (pc := 29) C k (rfl) (by omega) dX0_changePlaces_29 ?_
    refine r_iload_n (pc := 30) C 3 dX0_changePlaces_30 rfl rfl ?_
    refine kl_row (pc := 31) C k (by omega) b (rfl) (by omega) dX0_changePlaces_31 (chgF (σ 0) a b k (8 + 5 * b + k)) rfl ?_
    refine ks_row (pc := 32) C k (by omega) a (rfl) (by omega) dX0_changePlaces_32 (8 + 5 * a + k) rfl ?_
    refine r_aload_n (pc := 33) C 1 dX0_changePlaces_33 rfl rfl ?_
    refine kg_has (pc := 34) C fl_RX0_25 dX0_changePlaces_34 ?_
    refine r_iload_n (pc := 37) C 4 dX0_changePlaces_37 rfl rfl ?_
    refine ka_has (pc := 38) C k (rfl) (by omega) dX0_changePlaces_38 ?_
    refine r_iload_n (pc := 39) C 3 dX0_changePlaces_39 rfl rfl ?_
    refine r_iload (pc := 40) C 0 dX0_changePlaces_40 rfl ?_
    refine ks_row (pc := 42) C k (by omega) b (rfl) (by omega) dX0_changePlaces_42 (8 + 5 * b + k) rfl ?_
    refine r_iinc (pc := 43) C (nI (k + 1)) 4 [(3, .int (nI (k + 1))), (4, .int (chgF (σ 0) a b k (8 + 5 * a + k))), (0, .ref (g 0)), (1, .int (nI a)), (2, .int (nI b))] dX0_changePlaces_43 rfl (nI_1 _) (by decide) rfl ?_
    refine r_goto (pc := 46) C 2 dX0_changePlaces_46 (by decide) ?_
    refine r_pick (lv' := [(0, .ref (g 0)), (1, .int (nI a)), (2, .int (nI b)), (3, .int (nI (k + 1)))]) [2, 3, 4, 0] rfl ?_
    refine r_blk (blk' := wK cs g (chgF (σ 0) a b (k + 1))) (by rw [show (chgF (σ 0) a b (k + 1) : Nat → Int32) = upd (upd (chgF (σ 0) a b k) (8 + 5 * a + k) (chgF (σ 0) a b k (8 + 5 * b + k))) (8 + 5 * b + k) (chgF (σ 0) a b k (8 + 5 * a + k)) from Eq.symm ((upd_comm (by omega)))] <;> rfl) ?_
    exact ih_2 (by omega) (trivial)
theorem t_X0_changePlaces' (l : Launch) (ad : Nat → Nat) (D : va_G) (cs : Nat → ClassId) (g : Nat → Nat) (σ : Nat → Nat → Int32) (pre post : va_W) (f0_ : Nat → Int32) (e0_ : σ 0 = f0_) (n : Nat) (a b : Nat) (hN : f0_ 0 = nI n) (hn : n ≤ 8) (ha : a < n) (hb : b < n) (hab : a ≠ b) : CTv l yX0_changePlaces cX0_changePlaces 5 ({ frames := 0, cells := 0, slots := 0, locals := 0 }) ad D (tysW cs) (pre ++ (wK cs g f0_ ++ post)) [.ref (g 0), .int (nI a), .int (nI b)] (pre ++ (wK cs g (chgF f0_ a b 5) ++ post)) := by
  subst e0_
  exact t_X0_changePlaces l ad D cs g σ pre post n a b hN hn ha hb hab
theorem dX0_payRound_0 : decode cX0_payRound 0 = .ok (.iconst 0, 1) := by decide +kernel
theorem dX0_payRound_1 : decode cX0_payRound 1 = .ok (.istore_n 1, 1) := by decide +kernel
theorem dX0_payRound_2 : decode cX0_payRound 2 = .ok (.iload_n 1, 1) := by decide +kernel
theorem dX0_payRound_3 : decode cX0_payRound 3 = .ok (.aload_n 0, 1) := by decide +kernel
theorem dX0_payRound_4 : decode cX0_payRound 4 = .ok (.getfield 38, 3) := by decide +kernel
theorem dX0_payRound_7 : decode cX0_payRound 7 = .ok (.if_icmp .ge 112, 3) := by decide +kernel
theorem dX0_payRound_10 : decode cX0_payRound 10 = .ok (.iload_n 1, 1) := by decide +kernel
theorem dX0_payRound_11 : decode cX0_payRound 11 = .ok (.aload_n 0, 1) := by decide +kernel
theorem dX0_payRound_12 : decode cX0_payRound 12 = .ok (.getfield 38, 3) := by decide +kernel
theorem dX0_payRound_15 : decode cX0_payRound 15 = .ok (.iconst 1, 1) := by decide +kernel
theorem dX0_payRound_16 : decode cX0_payRound 16 = .ok (.isub, 1) := by decide +kernel
theorem dX0_payRound_17 : decode cX0_payRound 17 = .ok (.if_icmp .ne 7, 3) := by decide +kernel
theorem dX0_payRound_20 : decode cX0_payRound 20 = .ok (.iconst 0, 1) := by decide +kernel
theorem dX0_payRound_21 : decode cX0_payRound 21 = .ok (.goto 6, 3) := by decide +kernel
theorem dX0_payRound_24 : decode cX0_payRound 24 = .ok (.iload_n 1, 1) := by decide +kernel
theorem dX0_payRound_25 : decode cX0_payRound 25 = .ok (.iconst 1, 1) := by decide +kernel
theorem dX0_payRound_26 : decode cX0_payRound 26 = .ok (.iadd, 1) := by decide +kernel
theorem dX0_payRound_27 : decode cX0_payRound 27 = .ok (.istore_n 2, 1) := by decide +kernel
theorem dX0_payRound_28 : decode cX0_payRound 28 = .ok (.aload_n 0, 1) := by decide +kernel
theorem dX0_payRound_29 : decode cX0_payRound 29 = .ok (.iload_n 1, 1) := by decide +kernel
theorem dX0_payRound_30 : decode cX0_payRound 30 = .ok (.iload_n 2, 1) := by decide +kernel
theorem dX0_payRound_31 : decode cX0_payRound 31 = .ok (.invokevirtual 69, 3) := by decide +kernel
theorem dX0_payRound_34 : decode cX0_payRound 34 = .ok (.aload_n 0, 1) := by decide +kernel
theorem dX0_payRound_35 : decode cX0_payRound 35 = .ok (.getfield 25, 3) := by decide +kernel
theorem dX0_payRound_38 : decode cX0_payRound 38 = .ok (.iconst 4, 1) := by decide +kernel
theorem dX0_payRound_39 : decode cX0_payRound 39 = .ok (.aaload, 1) := by decide +kernel
theorem dX0_payRound_40 : decode cX0_payRound 40 = .ok (.iload_n 1, 1) := by decide +kernel
theorem dX0_payRound_41 : decode cX0_payRound 41 = .ok (.iaload, 1) := by decide +kernel
theorem dX0_payRound_42 : decode cX0_payRound 42 = .ok (.invokestatic 72, 3) := by decide +kernel
theorem dX0_payRound_45 : decode cX0_payRound 45 = .ok (.istore_n 3, 1) := by decide +kernel
theorem dX0_payRound_46 : decode cX0_payRound 46 = .ok (.iload_n 3, 1) := by decide +kernel
theorem dX0_payRound_47 : decode cX0_payRound 47 = .ok (.aload_n 0, 1) := by decide +kernel
theorem dX0_payRound_48 : decode cX0_payRound 48 = .ok (.getfield 18, 3) := by decide +kernel
theorem dX0_payRound_51 : decode cX0_payRound 51 = .ok (.iconst 2, 1) := by decide +kernel
theorem dX0_payRound_52 : decode cX0_payRound 52 = .ok (.iaload, 1) := by decide +kernel
theorem dX0_payRound_53 : decode cX0_payRound 53 = .ok (.invokestatic 75, 3) := by decide +kernel
theorem dX0_payRound_56 : decode cX0_payRound 56 = .ok (.istore 4, 2) := by decide +kernel
theorem dX0_payRound_58 : decode cX0_payRound 58 = .ok (.aload_n 0, 1) := by decide +kernel
theorem dX0_payRound_59 : decode cX0_payRound 59 = .ok (.getfield 25, 3) := by decide +kernel
theorem dX0_payRound_62 : decode cX0_payRound 62 = .ok (.iconst 4, 1) := by decide +kernel
theorem dX0_payRound_63 : decode cX0_payRound 63 = .ok (.aaload, 1) := by decide +kernel
theorem dX0_payRound_64 : decode cX0_payRound 64 = .ok (.iload_n 1, 1) := by decide +kernel
theorem dX0_payRound_65 : decode cX0_payRound 65 = .ok (.dup2, 1) := by decide +kernel
theorem dX0_payRound_66 : decode cX0_payRound 66 = .ok (.iaload, 1) := by decide +kernel
theorem dX0_payRound_67 : decode cX0_payRound 67 = .ok (.iload_n 3, 1) := by decide +kernel
theorem dX0_payRound_68 : decode cX0_payRound 68 = .ok (.isub, 1) := by decide +kernel
theorem dX0_payRound_69 : decode cX0_payRound 69 = .ok (.iastore, 1) := by decide +kernel
theorem dX0_payRound_70 : decode cX0_payRound 70 = .ok (.aload_n 0, 1) := by decide +kernel
theorem dX0_payRound_71 : decode cX0_payRound 71 = .ok (.getfield 25, 3) := by decide +kernel
theorem dX0_payRound_74 : decode cX0_payRound 74 = .ok (.iconst 4, 1) := by decide +kernel
theorem dX0_payRound_75 : decode cX0_payRound 75 = .ok (.aaload, 1) := by decide +kernel
theorem dX0_payRound_76 : decode cX0_payRound 76 = .ok (.iload_n 2, 1) := by decide +kernel
theorem dX0_payRound_77 : decode cX0_payRound 77 = .ok (.sipush 9999, 3) := by decide +kernel
theorem dX0_payRound_80 : decode cX0_payRound 80 = .ok (.aload_n 0, 1) := by decide +kernel
theorem dX0_payRound_81 : decode cX0_payRound 81 = .ok (.getfield 25, 3) := by decide +kernel
theorem dX0_payRound_84 : decode cX0_payRound 84 = .ok (.iconst 4, 1) := by decide +kernel
theorem dX0_payRound_85 : decode cX0_payRound 85 = .ok (.aaload, 1) := by decide +kernel
theorem dX0_payRound_86 : decode cX0_payRound 86 = .ok (.iload_n 2, 1) := by decide +kernel
theorem dX0_payRound_87 : decode cX0_payRound 87 = .ok (.iaload, 1) := by decide +kernel
theorem dX0_payRound_88 : decode cX0_payRound 88 = .ok (.iload_n 3, 1) := by decide +kernel
theorem dX0_payRound_89 : decode cX0_payRound 89 = .ok (.iadd, 1) := by decide +kernel
theorem dX0_payRound_90 : decode cX0_payRound 90 = .ok (.iload 4, 2) := by decide +kernel
theorem dX0_payRound_92 : decode cX0_payRound 92 = .ok (.isub, 1) := by decide +kernel
theorem dX0_payRound_93 : decode cX0_payRound 93 = .ok (.invokestatic 75, 3) := by decide +kernel
theorem dX0_payRound_96 : decode cX0_payRound 96 = .ok (.iastore, 1) := by decide +kernel
theorem dX0_payRound_97 : decode cX0_payRound 97 = .ok (.aload_n 0, 1) := by decide +kernel
theorem dX0_payRound_98 : decode cX0_payRound 98 = .ok (.ldc 80, 2) := by decide +kernel
theorem dX0_payRound_100 : decode cX0_payRound 100 = .ok (.aload_n 0, 1) := by decide +kernel
theorem dX0_payRound_101 : decode cX0_payRound 101 = .ok (.getfield 44, 3) := by decide +kernel
theorem dX0_payRound_104 : decode cX0_payRound 104 = .ok (.iload 4, 2) := by decide +kernel
theorem dX0_payRound_106 : decode cX0_payRound 106 = .ok (.iadd, 1) := by decide +kernel
theorem dX0_payRound_107 : decode cX0_payRound 107 = .ok (.invokestatic 75, 3) := by decide +kernel
theorem dX0_payRound_110 : decode cX0_payRound 110 = .ok (.putfield 44, 3) := by decide +kernel
theorem dX0_payRound_113 : decode cX0_payRound 113 = .ok (.iinc 1 1, 3) := by decide +kernel
theorem dX0_payRound_116 : decode cX0_payRound 116 = .ok (.goto (-114), 3) := by decide +kernel
theorem dX0_payRound_119 : decode cX0_payRound 119 = .ok (.return_, 1) := by decide +kernel
set_option maxHeartbeats 400000 in
set_option maxRecDepth 20000 in
theorem t_X0_payRound (l : Launch) (ad : Nat → Nat) (D : va_G) (cs : Nat → ClassId) (g : Nat → Nat) (σ : Nat → Nat → Int32) (pre post : va_W) (n : Nat) (hN : σ 0 0 = nI n) (hn : n ≤ 8) (hR : rgM n (σ 0)) (h1n : 1 < n) : CTv l yX0_payRound cX0_payRound 5 ({ frames := 3, cells := 0, slots := 0, locals := 68 }) ad D (tysW cs) (pre ++ (wK cs g (σ 0) ++ post)) [.ref (g 0)] (pre ++ (wK cs g (payN n (σ 0) n) ++ post)) := by
  refine CTv.of (lv0 := [(0, .ref (g 0))]) (by decide) rfl (Nat.le_of_ble_eq_true rfl) (fun p e s m args below meth c A C hr hlk => ?_)
  have C : Cx p s m args c cX0_payRound 5 RX0 ad D (tysW cs) A := C
  refine r_iconst (pc := 0) C 0 dX0_payRound_0 (by decide) ?_
  refine r_istore_n (pc := 1) C [(1, .int 0), (0, .ref (g 0))] dX0_payRound_1 rfl (by decide) rfl ?_
  refine r_pick (lv' := [(0, .ref (g 0)), (1, .int 0)]) [1, 0] rfl ?_
  refine r_blk (blk' := wK cs g (payN n (σ 0) 0)) (rfl) ?_
  refine r_loop (blkf := fun i => wK cs g (payN n (σ 0) i)) (lvf := fun i => [(0, .ref (g 0)), (1, .int (nI i))]) (fun i => True) n 0 (by omega) (trivial) (fun i h_i _ ih_2 => ?_)
  show VX p l e _ s m args below meth c _ D A 5 pre (wK cs g (payN n (σ 0) i)) post 2 [(0, .ref (g 0)), (1, .int (nI i))] []
  refine r_iload_n (pc := 2) C 1 dX0_payRound_2 rfl rfl ?_
  refine r_aload_n (pc := 3) C 0 dX0_payRound_3 rfl rfl ?_
  refine kg_count (pc := 4) C fl_RX0_38 dX0_payRound_4 (payN n (σ 0) i 0) rfl ?_
  refine r_eqi (y := nI n) ((payN_0 hN)) ?_
  refine r_icmp_ge (pc := 7) C 119 dX0_payRound_7 (by decide) (fun c_1 => ?_) (fun c_1 => ?_)
  · skip
    have c_1 := nIc_ge_t (a := i) (b := n) (by omega) (by omega) c_1
    obtain rfl : n = i := by omega
    exact r_vret (pc := 119) C hr hlk dX0_payRound_119 rfl
  · skip
    have c_1 := nIc_ge_f (a := i) (b := n) (by omega) (by omega) c_1
    refine r_iload_n (pc := 10) C 1 dX0_payRound_10 rfl rfl ?_
    refine r_aload_n (pc := 11) C 0 dX0_payRound_11 rfl rfl ?_
    refine kg_count (pc := 12) C fl_RX0_38 dX0_payRound_12 (payN n (σ 0) i 0) rfl ?_
    refine r_eqi (y := nI n) ((payN_0 hN)) ?_
    refine r_iconst (pc := 15) C 1 dX0_payRound_15 (by decide) ?_
    refine r_isub (pc := 16) C dX0_payRound_16 ?_
    refine r_eqi (y := nI (n - 1)) (pk_sub (b := 1) (by omega)) ?_
    refine r_icmp_ne (pc := 17) C 24 dX0_payRound_17 (by decide) (fun c_2 => ?_) (fun c_2 => ?_)
    · skip
      have c_2 := nIc_ne_t (a := i) (b := (n - 1)) (by omega) (by omega) c_2
      refine r_iload_n (pc := 24) C 1 dX0_payRound_24 rfl rfl ?_
      refine r_iconst (pc := 25) C 1 dX0_payRound_25 (by decide) ?_
      refine r_iadd (pc := 26) C dX0_payRound_26 ?_
      refine r_eqi (y := nI (i + 1)) (nI_add i 1) ?_
      have hnx : nxtO n i = i + 1 := Nat.mod_eq_of_lt (by omega)
      refine r_eqi (y := nI (nxtO n i)) (by rw [hnx] <;> rfl) ?_
      have hq8 : nxtO n i < n := nxtO_lt (by omega)
      have hrg := rg_payN hR i (by omega)
      refine r_istore_n (pc := 27) C [(2, .int (nI (nxtO n i))), (0, .ref (g 0)), (1, .int (nI i))] dX0_payRound_27 rfl (by decide) rfl ?_
      refine r_aload_n (pc := 28) C 1 dX0_payRound_28 rfl rfl ?_
      refine r_iload_n (pc := 29) C 2 dX0_payRound_29 rfl rfl ?_
      refine r_iload_n (pc := 30) C 0 dX0_payRound_30 rfl rfl ?_
      refine rc_Vi (pc := 31) C (t_X0_offers' l ad D cs g (fun _ => payN n (σ 0) i) pre post (payN n (σ 0) i) (rfl) n i (nxtO n i) (payN_0 hN) hn (by omega) (by omega) hrg) mv_X0_offers ml_RX0_69 rfl ⟨Nat.le_of_ble_eq_true rfl, Nat.le_of_ble_eq_true rfl⟩ ⟨rfl, rfl⟩ (q0 := 0) rfl rfl rfl rfl rfl rfl (Nat.le_of_ble_eq_true rfl) dX0_payRound_31 ?_
      refine r_aload_n (pc := 34) C 1 dX0_payRound_34 rfl rfl ?_
      refine kg_has (pc := 35) C fl_RX0_25 dX0_payRound_35 ?_
      refine r_iconst (pc := 38) C 4 dX0_payRound_38 (by decide) ?_
      refine ka_has (pc := 39) C 4 (rfl) (by omega) dX0_payRound_39 ?_
      refine r_iload_n (pc := 40) C 2 dX0_payRound_40 rfl rfl ?_
      refine kl_row (pc := 41) C 4 (by decide) i (rfl) (by omega) dX0_payRound_41 (payN n (σ 0) i (8 + 5 * i + 4)) rfl ?_
      refine rc_Ni (pc := 42) C (t_X5_held l ad D (tysW cs) (wK cs g (payN n (σ 0) i)) pre post  (offersF (payN n (σ 0) i) i (nxtO n i)) (payN n (σ 0) i (8 + 5 * i + 4)) ) ms_X5_held (C_nw C).2.2.2.2.2.2.2.1 rfl ⟨Nat.le_of_ble_eq_true rfl, Nat.le_of_ble_eq_true rfl⟩ ⟨rfl, rfl⟩ rfl rfl rfl (Nat.le_of_ble_eq_true rfl) dX0_payRound_42 ?_
      refine r_eqi (y := paidF (payN n (σ 0) i) i (nxtO n i)) (paid_eq (hrg.2 i (by omega)).2.1) ?_
      refine r_istore_n (pc := 45) C [(3, .int (paidF (payN n (σ 0) i) i (nxtO n i))), (2, .int (nI (nxtO n i))), (0, .ref (g 0)), (1, .int (nI i))] dX0_payRound_45 rfl (by decide) rfl ?_
      refine r_iload_n (pc := 46) C 0 dX0_payRound_46 rfl rfl ?_
      refine r_aload_n (pc := 47) C 2 dX0_payRound_47 rfl rfl ?_
      refine kg_laws (pc := 48) C fl_RX0_18 dX0_payRound_48 ?_
      refine r_iconst (pc := 51) C 2 dX0_payRound_51 (by decide) ?_
      refine kl_laws (pc := 52) C 2 (rfl) (by omega) dX0_payRound_52 (payN n (σ 0) i 6) rfl ?_
      refine r_mmin (pc := 53) C ml_RX0_75' (Nat.le_of_ble_eq_true rfl) (Nat.le_of_ble_eq_true rfl) (Nat.le_of_ble_eq_true rfl) dX0_payRound_53 ?_
      refine r_eqi (y := tollF (payN n (σ 0) i) i (nxtO n i)) (mmin_mn _ _) ?_
      refine r_istore (pc := 56) C [(4, .int (tollF (payN n (σ 0) i) i (nxtO n i))), (3, .int (paidF (payN n (σ 0) i) i (nxtO n i))), (2, .int (nI (nxtO n i))), (0, .ref (g 0)), (1, .int (nI i))] dX0_payRound_56 (by decide) rfl ?_
      refine r_aload_n (pc := 58) C 3 dX0_payRound_58 rfl rfl ?_
      refine kg_has (pc := 59) C fl_RX0_25 dX0_payRound_59 ?_
      refine r_iconst (pc := 62) C 4 dX0_payRound_62 (by decide) ?_
      refine ka_has (pc := 63) C 4 (rfl) (by omega) dX0_payRound_63 ?_
      refine r_iload_n (pc := 64) C 4 dX0_payRound_64 rfl rfl ?_
      refine r_dup2 (pc := 65) C dX0_payRound_65 rfl rfl ?_
      refine kl_row (pc := 66) C 4 (by decide) i (rfl) (by omega) dX0_payRound_66 (payN n (σ 0) i (8 + 5 * i + 4)) rfl ?_
      refine r_iload_n (pc := 67) C 1 dX0_payRound_67 rfl rfl ?_
      refine r_isub (pc := 68) C dX0_payRound_68 ?_
      refine ks_row (pc := 69) C 4 (by decide) i (rfl) (by omega) dX0_payRound_69 (8 + 5 * i + 4) rfl ?_
      refine r_aload_n (pc := 70) C 3 dX0_payRound_70 rfl rfl ?_
      refine kg_has (pc := 71) C fl_RX0_25 dX0_payRound_71 ?_
      refine r_iconst (pc := 74) C 4 dX0_payRound_74 (by decide) ?_
      refine ka_has (pc := 75) C 4 (rfl) (by omega) dX0_payRound_75 ?_
      refine r_iload_n (pc := 76) C 2 dX0_payRound_76 rfl rfl ?_
      refine r_sipush (pc := 77) C 9999 dX0_payRound_77 (by decide) ?_
      refine r_aload_n (pc := 80) C 3 dX0_payRound_80 rfl rfl ?_
      refine kg_has (pc := 81) C fl_RX0_25 dX0_payRound_81 ?_
      refine r_iconst (pc := 84) C 4 dX0_payRound_84 (by decide) ?_
      refine ka_has (pc := 85) C 4 (rfl) (by omega) dX0_payRound_85 ?_
      refine r_iload_n (pc := 86) C 2 dX0_payRound_86 rfl rfl ?_
      refine kl_row (pc := 87) C 4 (by decide) (nxtO n i) (rfl) (by omega) dX0_payRound_87 (upd (payN n (σ 0) i) (8 + 5 * i + 4) ((payN n (σ 0) i (8 + 5 * i + 4)) - (paidF (payN n (σ 0) i) i (nxtO n i))) (8 + 5 * (nxtO n i) + 4)) rfl ?_
      refine r_iload_n (pc := 88) C 1 dX0_payRound_88 rfl rfl ?_
      refine r_iadd (pc := 89) C dX0_payRound_89 ?_
      refine r_iload (pc := 90) C 0 dX0_payRound_90 rfl ?_
      refine r_isub (pc := 92) C dX0_payRound_92 ?_
      refine r_mmin (pc := 93) C ml_RX0_75' (Nat.le_of_ble_eq_true rfl) (Nat.le_of_ble_eq_true rfl) (Nat.le_of_ble_eq_true rfl) dX0_payRound_93 ?_
      refine r_eqi (y := mnI 9999 (((upd (payN n (σ 0) i) (8 + 5 * i + 4) ((payN n (σ 0) i (8 + 5 * i + 4)) - (paidF (payN n (σ 0) i) i (nxtO n i))) (8 + 5 * (nxtO n i) + 4)) + (paidF (payN n (σ 0) i) i (nxtO n i))) - (tollF (payN n (σ 0) i) i (nxtO n i)))) (mmin_mn _ _) ?_
      refine ks_row (pc := 96) C 4 (by decide) (nxtO n i) (rfl) (by omega) dX0_payRound_96 (8 + 5 * (nxtO n i) + 4) rfl ?_
      refine r_aload_n (pc := 97) C 3 dX0_payRound_97 rfl rfl ?_
      refine r_ldc (pc := 98) C dX0_payRound_98 cn_RX0_80 ?_
      refine r_aload_n (pc := 100) C 3 dX0_payRound_100 rfl rfl ?_
      refine kg_chest (pc := 101) C fl_RX0_44 dX0_payRound_101 (upd (upd (payN n (σ 0) i) (8 + 5 * i + 4) ((payN n (σ 0) i (8 + 5 * i + 4)) - (paidF (payN n (σ 0) i) i (nxtO n i)))) (8 + 5 * (nxtO n i) + 4) (mnI 9999 (((upd (payN n (σ 0) i) (8 + 5 * i + 4) ((payN n (σ 0) i (8 + 5 * i + 4)) - (paidF (payN n (σ 0) i) i (nxtO n i))) (8 + 5 * (nxtO n i) + 4)) + (paidF (payN n (σ 0) i) i (nxtO n i))) - (tollF (payN n (σ 0) i) i (nxtO n i)))) 3) rfl ?_
      refine r_iload (pc := 104) C 0 dX0_payRound_104 rfl ?_
      refine r_iadd (pc := 106) C dX0_payRound_106 ?_
      refine r_mmin (pc := 107) C ml_RX0_75' (Nat.le_of_ble_eq_true rfl) (Nat.le_of_ble_eq_true rfl) (Nat.le_of_ble_eq_true rfl) dX0_payRound_107 ?_
      refine r_eqi (y := mnI 99999 ((upd (upd (payN n (σ 0) i) (8 + 5 * i + 4) ((payN n (σ 0) i (8 + 5 * i + 4)) - (paidF (payN n (σ 0) i) i (nxtO n i)))) (8 + 5 * (nxtO n i) + 4) (mnI 9999 (((upd (payN n (σ 0) i) (8 + 5 * i + 4) ((payN n (σ 0) i (8 + 5 * i + 4)) - (paidF (payN n (σ 0) i) i (nxtO n i))) (8 + 5 * (nxtO n i) + 4)) + (paidF (payN n (σ 0) i) i (nxtO n i))) - (tollF (payN n (σ 0) i) i (nxtO n i)))) 3) + (tollF (payN n (σ 0) i) i (nxtO n i)))) (mmin_mn _ _) ?_
      refine kp_chest (pc := 110) C fl_RX0_44 dX0_payRound_110 ?_
      refine r_iinc (pc := 113) C (nI (i + 1)) 4 [(1, .int (nI (i + 1))), (4, .int (tollF (payN n (σ 0) i) i (nxtO n i))), (3, .int (paidF (payN n (σ 0) i) i (nxtO n i))), (2, .int (nI (nxtO n i))), (0, .ref (g 0))] dX0_payRound_113 rfl (nI_1 _) (by decide) rfl ?_
      refine r_goto (pc := 116) C 2 dX0_payRound_116 (by decide) ?_
      refine r_pick (lv' := [(0, .ref (g 0)), (1, .int (nI (i + 1)))]) [4, 0] rfl ?_
      refine r_blk (blk' := wK cs g (payN n (σ 0) (i + 1))) (by rw [show (payN n (σ 0) (i + 1) : Nat → Int32) = upd (upd (upd (payN n (σ 0) i) (8 + 5 * i + 4) ((payN n (σ 0) i (8 + 5 * i + 4)) - (paidF (payN n (σ 0) i) i (nxtO n i)))) (8 + 5 * (nxtO n i) + 4) (mnI 9999 (((upd (payN n (σ 0) i) (8 + 5 * i + 4) ((payN n (σ 0) i (8 + 5 * i + 4)) - (paidF (payN n (σ 0) i) i (nxtO n i))) (8 + 5 * (nxtO n i) + 4)) + (paidF (payN n (σ 0) i) i (nxtO n i))) - (tollF (payN n (σ 0) i) i (nxtO n i))))) 3 (mnI 99999 ((upd (upd (payN n (σ 0) i) (8 + 5 * i + 4) ((payN n (σ 0) i (8 + 5 * i + 4)) - (paidF (payN n (σ 0) i) i (nxtO n i)))) (8 + 5 * (nxtO n i) + 4) (mnI 9999 (((upd (payN n (σ 0) i) (8 + 5 * i + 4) ((payN n (σ 0) i (8 + 5 * i + 4)) - (paidF (payN n (σ 0) i) i (nxtO n i))) (8 + 5 * (nxtO n i) + 4)) + (paidF (payN n (σ 0) i) i (nxtO n i))) - (tollF (payN n (σ 0) i) i (nxtO n i)))) 3) + (tollF (payN n (σ 0) i) i (nxtO n i)))) from Eq.symm ((payK _ rfl))] <;> rfl) ?_
      exact ih_2 (by omega) (trivial)
    · skip
      have c_2 := nIc_ne_f (a := i) (b := (n - 1)) (by omega) (by omega) c_2
      refine r_iconst (pc := 20) C 0 dX0_payRound_20 (by decide) ?_
      refine r_goto (pc := 21) C 27 dX0_payRound_21 (by decide) ?_
      have hnx : nxtO n i = 0 := nx_last (by omega) (by omega)
      refine r_eqi (y := nI (nxtO n i)) (by rw [hnx] <;> rfl) ?_
      have hq8 : nxtO n i < n := nxtO_lt (by omega)
      have hrg := rg_payN hR i (by omega)
      refine r_istore_n (pc := 27) C [(2, .int (nI (nxtO n i))), (0, .ref (g 0)), (1, .int (nI i))] dX0_payRound_27 rfl (by decide) rfl ?_
      refine r_aload_n (pc := 28) C 1 dX0_payRound_28 rfl rfl ?_
      refine r_iload_n (pc := 29) C 2 dX0_payRound_29 rfl rfl ?_
      refine r_iload_n (pc := 30) C 0 dX0_payRound_30 rfl rfl ?_
      refine rc_Vi (pc := 31) C (t_X0_offers' l ad D cs g (fun _ => payN n (σ 0) i) pre post (payN n (σ 0) i) (rfl) n i (nxtO n i) (payN_0 hN) hn (by omega) (by omega) hrg) mv_X0_offers ml_RX0_69 rfl ⟨Nat.le_of_ble_eq_true rfl, Nat.le_of_ble_eq_true rfl⟩ ⟨rfl, rfl⟩ (q0 := 0) rfl rfl rfl rfl rfl rfl (Nat.le_of_ble_eq_true rfl) dX0_payRound_31 ?_
      refine r_aload_n (pc := 34) C 1 dX0_payRound_34 rfl rfl ?_
      refine kg_has (pc := 35) C fl_RX0_25 dX0_payRound_35 ?_
      refine r_iconst (pc := 38) C 4 dX0_payRound_38 (by decide) ?_
      refine ka_has (pc := 39) C 4 (rfl) (by omega) dX0_payRound_39 ?_
      refine r_iload_n (pc := 40) C 2 dX0_payRound_40 rfl rfl ?_
      refine kl_row (pc := 41) C 4 (by decide) i (rfl) (by omega) dX0_payRound_41 (payN n (σ 0) i (8 + 5 * i + 4)) rfl ?_
      refine rc_Ni (pc := 42) C (t_X5_held l ad D (tysW cs) (wK cs g (payN n (σ 0) i)) pre post  (offersF (payN n (σ 0) i) i (nxtO n i)) (payN n (σ 0) i (8 + 5 * i + 4)) ) ms_X5_held (C_nw C).2.2.2.2.2.2.2.1 rfl ⟨Nat.le_of_ble_eq_true rfl, Nat.le_of_ble_eq_true rfl⟩ ⟨rfl, rfl⟩ rfl rfl rfl (Nat.le_of_ble_eq_true rfl) dX0_payRound_42 ?_
      refine r_eqi (y := paidF (payN n (σ 0) i) i (nxtO n i)) (paid_eq (hrg.2 i (by omega)).2.1) ?_
      refine r_istore_n (pc := 45) C [(3, .int (paidF (payN n (σ 0) i) i (nxtO n i))), (2, .int (nI (nxtO n i))), (0, .ref (g 0)), (1, .int (nI i))] dX0_payRound_45 rfl (by decide) rfl ?_
      refine r_iload_n (pc := 46) C 0 dX0_payRound_46 rfl rfl ?_
      refine r_aload_n (pc := 47) C 2 dX0_payRound_47 rfl rfl ?_
      refine kg_laws (pc := 48) C fl_RX0_18 dX0_payRound_48 ?_
      refine r_iconst (pc := 51) C 2 dX0_payRound_51 (by decide) ?_
      refine kl_laws (pc := 52) C 2 (rfl) (by omega) dX0_payRound_52 (payN n (σ 0) i 6) rfl ?_
      refine r_mmin (pc := 53) C ml_RX0_75' (Nat.le_of_ble_eq_true rfl) (Nat.le_of_ble_eq_true rfl) (Nat.le_of_ble_eq_true rfl) dX0_payRound_53 ?_
      refine r_eqi (y := tollF (payN n (σ 0) i) i (nxtO n i)) (mmin_mn _ _) ?_
      refine r_istore (pc := 56) C [(4, .int (tollF (payN n (σ 0) i) i (nxtO n i))), (3, .int (paidF (payN n (σ 0) i) i (nxtO n i))), (2, .int (nI (nxtO n i))), (0, .ref (g 0)), (1, .int (nI i))] dX0_payRound_56 (by decide) rfl ?_
      refine r_aload_n (pc := 58) C 3 dX0_payRound_58 rfl rfl ?_
      refine kg_has (pc := 59) C fl_RX0_25 dX0_payRound_59 ?_
      refine r_iconst (pc := 62) C 4 dX0_payRound_62 (by decide) ?_
      refine ka_has (pc := 63) C 4 (rfl) (by omega) dX0_payRound_63 ?_
      refine r_iload_n (pc := 64) C 4 dX0_payRound_64 rfl rfl ?_
      refine r_dup2 (pc := 65) C dX0_payRound_65 rfl rfl ?_
      refine kl_row (pc := 66) C 4 (by decide) i (rfl) (by omega) dX0_payRound_66 (payN n (σ 0) i (8 + 5 * i + 4)) rfl ?_
      refine r_iload_n (pc := 67) C 1 dX0_payRound_67 rfl rfl ?_
      refine r_isub (pc := 68) C dX0_payRound_68 ?_
      refine ks_row (pc := 69) C 4 (by decide) i (rfl) (by omega) dX0_payRound_69 (8 + 5 * i + 4) rfl ?_
      refine r_aload_n (pc := 70) C 3 dX0_payRound_70 rfl rfl ?_
      refine kg_has (pc := 71) C fl_RX0_25 dX0_payRound_71 ?_
      refine r_iconst (pc := 74) C 4 dX0_payRound_74 (by decide) ?_
      refine ka_has (pc := 75) C 4 (rfl) (by omega) dX0_payRound_75 ?_
      refine r_iload_n (pc := 76) C 2 dX0_payRound_76 rfl rfl ?_
      refine r_sipush (pc := 77) C 9999 dX0_payRound_77 (by decide) ?_
      refine r_aload_n (pc := 80) C 3 dX0_payRound_80 rfl rfl ?_
      refine kg_has (pc := 81) C fl_RX0_25 dX0_payRound_81 ?_
      refine r_iconst (pc := 84) C 4 dX0_payRound_84 (by decide) ?_
      refine ka_has (pc := 85) C 4 (rfl) (by omega) dX0_payRound_85 ?_
      refine r_iload_n (pc := 86) C 2 dX0_payRound_86 rfl rfl ?_
      refine kl_row (pc := 87) C 4 (by decide) (nxtO n i) (rfl) (by omega) dX0_payRound_87 (upd (payN n (σ 0) i) (8 + 5 * i + 4) ((payN n (σ 0) i (8 + 5 * i + 4)) - (paidF (payN n (σ 0) i) i (nxtO n i))) (8 + 5 * (nxtO n i) + 4)) rfl ?_
      refine r_iload_n (pc := 88) C 1 dX0_payRound_88 rfl rfl ?_
      refine r_iadd (pc := 89) C dX0_payRound_89 ?_
      refine r_iload (pc := 90) C 0 dX0_payRound_90 rfl ?_
      refine r_isub (pc := 92) C dX0_payRound_92 ?_
      refine r_mmin (pc := 93) C ml_RX0_75' (Nat.le_of_ble_eq_true rfl) (Nat.le_of_ble_eq_true rfl) (Nat.le_of_ble_eq_true rfl) dX0_payRound_93 ?_
      refine r_eqi (y := mnI 9999 (((upd (payN n (σ 0) i) (8 + 5 * i + 4) ((payN n (σ 0) i (8 + 5 * i + 4)) - (paidF (payN n (σ 0) i) i (nxtO n i))) (8 + 5 * (nxtO n i) + 4)) + (paidF (payN n (σ 0) i) i (nxtO n i))) - (tollF (payN n (σ 0) i) i (nxtO n i)))) (mmin_mn _ _) ?_
      refine ks_row (pc := 96) C 4 (by decide) (nxtO n i) (rfl) (by omega) dX0_payRound_96 (8 + 5 * (nxtO n i) + 4) rfl ?_
      refine r_aload_n (pc := 97) C 3 dX0_payRound_97 rfl rfl ?_
      refine r_ldc (pc := 98) C dX0_payRound_98 cn_RX0_80 ?_
      refine r_aload_n (pc := 100) C 3 dX0_payRound_100 rfl rfl ?_
      refine kg_chest (pc := 101) C fl_RX0_44 dX0_payRound_101 (upd (upd (payN n (σ 0) i) (8 + 5 * i + 4) ((payN n (σ 0) i (8 + 5 * i + 4)) - (paidF (payN n (σ 0) i) i (nxtO n i)))) (8 + 5 * (nxtO n i) + 4) (mnI 9999 (((upd (payN n (σ 0) i) (8 + 5 * i + 4) ((payN n (σ 0) i (8 + 5 * i + 4)) - (paidF (payN n (σ 0) i) i (nxtO n i))) (8 + 5 * (nxtO n i) + 4)) + (paidF (payN n (σ 0) i) i (nxtO n i))) - (tollF (payN n (σ 0) i) i (nxtO n i)))) 3) rfl ?_
      refine r_iload (pc := 104) C 0 dX0_payRound_104 rfl ?_
      refine r_iadd (pc := 106) C dX0_payRound_106 ?_
      refine r_mmin (pc := 107) C ml_RX0_75' (Nat.le_of_ble_eq_true rfl) (Nat.le_of_ble_eq_true rfl) (Nat.le_of_ble_eq_true rfl) dX0_payRound_107 ?_
      refine r_eqi (y := mnI 99999 ((upd (upd (payN n (σ 0) i) (8 + 5 * i + 4) ((payN n (σ 0) i (8 + 5 * i + 4)) - (paidF (payN n (σ 0) i) i (nxtO n i)))) (8 + 5 * (nxtO n i) + 4) (mnI 9999 (((upd (payN n (σ 0) i) (8 + 5 * i + 4) ((payN n (σ 0) i (8 + 5 * i + 4)) - (paidF (payN n (σ 0) i) i (nxtO n i))) (8 + 5 * (nxtO n i) + 4)) + (paidF (payN n (σ 0) i) i (nxtO n i))) - (tollF (payN n (σ 0) i) i (nxtO n i)))) 3) + (tollF (payN n (σ 0) i) i (nxtO n i)))) (mmin_mn _ _) ?_
      refine kp_chest (pc := 110) C fl_RX0_44 dX0_payRound_110 ?_
      refine r_iinc (pc := 113) C (nI (i + 1)) 4 [(1, .int (nI (i + 1))), (4, .int (tollF (payN n (σ 0) i) i (nxtO n i))), (3, .int (paidF (payN n (σ 0) i) i (nxtO n i))), (2, .int (nI (nxtO n i))), (0, .ref (g 0))] dX0_payRound_113 rfl (nI_1 _) (by decide) rfl ?_
      refine r_goto (pc := 116) C 2 dX0_payRound_116 (by decide) ?_
      refine r_pick (lv' := [(0, .ref (g 0)), (1, .int (nI (i + 1)))]) [4, 0] rfl ?_
      refine r_blk (blk' := wK cs g (payN n (σ 0) (i + 1))) (by rw [show (payN n (σ 0) (i + 1) : Nat → Int32) = upd (upd (upd (payN n (σ 0) i) (8 + 5 * i + 4) ((payN n (σ 0) i (8 + 5 * i + 4)) - (paidF (payN n (σ 0) i) i (nxtO n i)))) (8 + 5 * (nxtO n i) + 4) (mnI 9999 (((upd (payN n (σ 0) i) (8 + 5 * i + 4) ((payN n (σ 0) i (8 + 5 * i + 4)) - (paidF (payN n (σ 0) i) i (nxtO n i))) (8 + 5 * (nxtO n i) + 4)) + (paidF (payN n (σ 0) i) i (nxtO n i))) - (tollF (payN n (σ 0) i) i (nxtO n i))))) 3 (mnI 99999 ((upd (upd (payN n (σ 0) i) (8 + 5 * i + 4) ((payN n (σ 0) i (8 + 5 * i + 4)) - (paidF (payN n (σ 0) i) i (nxtO n i)))) (8 + 5 * (nxtO n i) + 4) (mnI 9999 (((upd (payN n (σ 0) i) (8 + 5 * i + 4) ((payN n (σ 0) i (8 + 5 * i + 4)) - (paidF (payN n (σ 0) i) i (nxtO n i))) (8 + 5 * (nxtO n i) + 4)) + (paidF (payN n (σ 0) i) i (nxtO n i))) - (tollF (payN n (σ 0) i) i (nxtO n i)))) 3) + (tollF (payN n (σ 0) i) i (nxtO n i)))) from Eq.symm ((payK _ rfl))] <;> rfl) ?_
      exact ih_2 (by omega) (trivial)
theorem t_X0_payRound' (l : Launch) (ad : Nat → Nat) (D : va_G) (cs : Nat → ClassId) (g : Nat → Nat) (σ : Nat → Nat → Int32) (pre post : va_W) (f0_ : Nat → Int32) (e0_ : σ 0 = f0_) (n : Nat) (hN : f0_ 0 = nI n) (hn : n ≤ 8) (hR : rgM n f0_) (h1n : 1 < n) : CTv l yX0_payRound cX0_payRound 5 ({ frames := 3, cells := 0, slots := 0, locals := 68 }) ad D (tysW cs) (pre ++ (wK cs g f0_ ++ post)) [.ref (g 0)] (pre ++ (wK cs g (payN n f0_ n) ++ post)) := by
  subst e0_
  exact t_X0_payRound l ad D cs g σ pre post n hN hn hR h1n
