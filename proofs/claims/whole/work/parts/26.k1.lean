theorem dX5_isWithin_0 : decode cX5_isWithin 0 = .ok (.iload_n 0, 1) := by decide +kernel
theorem dX5_isWithin_1 : decode cX5_isWithin 1 = .ok (.iload_n 1, 1) := by decide +kernel
theorem dX5_isWithin_2 : decode cX5_isWithin 2 = .ok (.if_icmp .lt 12, 3) := by decide +kernel
theorem dX5_isWithin_5 : decode cX5_isWithin 5 = .ok (.iload_n 0, 1) := by decide +kernel
theorem dX5_isWithin_6 : decode cX5_isWithin 6 = .ok (.iload_n 2, 1) := by decide +kernel
theorem dX5_isWithin_7 : decode cX5_isWithin 7 = .ok (.if_icmp .gt 7, 3) := by decide +kernel
theorem dX5_isWithin_10 : decode cX5_isWithin 10 = .ok (.iconst 1, 1) := by decide +kernel
theorem dX5_isWithin_11 : decode cX5_isWithin 11 = .ok (.goto 4, 3) := by decide +kernel
theorem dX5_isWithin_14 : decode cX5_isWithin 14 = .ok (.iconst 0, 1) := by decide +kernel
theorem dX5_isWithin_15 : decode cX5_isWithin 15 = .ok (.ireturn, 1) := by decide +kernel
set_option maxHeartbeats 400000 in
set_option maxRecDepth 20000 in
theorem t_X5_isWithin (l : Launch) (ad : Nat → Nat) (D : va_G) (tys : List (ClassId × FieldType)) (bk : va_W) (pre post : va_W) (x lo hi : Int32)  : CTi l yX5_isWithin cX5_isWithin 3 .boolean ({ frames := 0, cells := 0, slots := 0, locals := 0 }) ad D tys (pre ++ (bk ++ post)) [.int x, .int lo, .int hi] (bI (inB x lo hi = true)) (pre ++ (bk ++ post)) := by
  refine CTi.of (lv0 := [(0, .int x), (1, .int lo), (2, .int hi)]) (by decide) rfl (Nat.le_of_ble_eq_true rfl) (fun p e s m args below meth c A C hr hlk => ?_)
  have C : Cx p s m args c cX5_isWithin 3 RX5 ad D tys A := C
  refine r_iload_n (pc := 0) C 0 dX5_isWithin_0 rfl rfl ?_
  refine r_iload_n (pc := 1) C 1 dX5_isWithin_1 rfl rfl ?_
  refine r_icmp_lt (pc := 2) C 14 dX5_isWithin_2 (by decide) (fun c_1 => ?_) (fun c_1 => ?_)
  · skip
    refine r_iconst (pc := 14) C 0 dX5_isWithin_14 (by decide) ?_
    exact r_iret (pc := 15) C hr hlk dX5_isWithin_15 rfl (by simp_all [bI, inB]) rfl
  · skip
    refine r_iload_n (pc := 5) C 0 dX5_isWithin_5 rfl rfl ?_
    refine r_iload_n (pc := 6) C 2 dX5_isWithin_6 rfl rfl ?_
    refine r_icmp_gt (pc := 7) C 14 dX5_isWithin_7 (by decide) (fun c_2 => ?_) (fun c_2 => ?_)
    · skip
      refine r_iconst (pc := 14) C 0 dX5_isWithin_14 (by decide) ?_
      exact r_iret (pc := 15) C hr hlk dX5_isWithin_15 rfl (by simp_all [bI, inB]) rfl
    · skip
      refine r_iconst (pc := 10) C 1 dX5_isWithin_10 (by decide) ?_
      refine r_goto (pc := 11) C 15 dX5_isWithin_11 (by decide) ?_
      exact r_iret (pc := 15) C hr hlk dX5_isWithin_15 rfl (by simp_all [bI, inB]) rfl
theorem dX5_held_0 : decode cX5_held 0 = .ok (.iconst 0, 1) := by decide +kernel
theorem dX5_held_1 : decode cX5_held 1 = .ok (.iload_n 1, 1) := by decide +kernel
theorem dX5_held_2 : decode cX5_held 2 = .ok (.iload_n 0, 1) := by decide +kernel
theorem dX5_held_3 : decode cX5_held 3 = .ok (.invokestatic 301, 3) := by decide +kernel
theorem dX5_held_6 : decode cX5_held 6 = .ok (.invokestatic 306, 3) := by decide +kernel
theorem dX5_held_9 : decode cX5_held 9 = .ok (.ireturn, 1) := by decide +kernel
set_option maxHeartbeats 400000 in
set_option maxRecDepth 20000 in
theorem t_X5_held (l : Launch) (ad : Nat → Nat) (D : va_G) (tys : List (ClassId × FieldType)) (bk : va_W) (pre post : va_W) (v w : Int32)  : CTi l yX5_held cX5_held 2 .int ({ frames := 1, cells := 0, slots := 0, locals := 21 }) ad D tys (pre ++ (bk ++ post)) [.int v, .int w] (mxI 0 (mnI w v)) (pre ++ (bk ++ post)) := by
  refine CTi.of (lv0 := [(0, .int v), (1, .int w)]) (by decide) rfl (Nat.le_of_ble_eq_true rfl) (fun p e s m args below meth c A C hr hlk => ?_)
  have C : Cx p s m args c cX5_held 2 RX5 ad D tys A := C
  refine r_iconst (pc := 0) C 0 dX5_held_0 (by decide) ?_
  refine r_iload_n (pc := 1) C 1 dX5_held_1 rfl rfl ?_
  refine r_iload_n (pc := 2) C 0 dX5_held_2 rfl rfl ?_
  refine r_mmin (pc := 3) C ml_RX5_301' (Nat.le_of_ble_eq_true rfl) (Nat.le_of_ble_eq_true rfl) (Nat.le_of_ble_eq_true rfl) dX5_held_3 ?_
  refine r_eqi (y := mnI w v) (mmin_mn _ _) ?_
  refine r_mmax (pc := 6) C ml_RX5_306' (Nat.le_of_ble_eq_true rfl) (Nat.le_of_ble_eq_true rfl) (Nat.le_of_ble_eq_true rfl) dX5_held_6 ?_
  refine r_eqi (y := mxI 0 (mnI w v)) (mmax_mx _ _) ?_
  exact r_iret (pc := 9) C hr hlk dX5_held_9 rfl rfl rfl
theorem dX0_exists_0 : decode cX0_exists 0 = .ok (.iload_n 1, 1) := by decide +kernel
theorem dX0_exists_1 : decode cX0_exists 1 = .ok (.iconst 0, 1) := by decide +kernel
theorem dX0_exists_2 : decode cX0_exists 2 = .ok (.aload_n 0, 1) := by decide +kernel
theorem dX0_exists_3 : decode cX0_exists 3 = .ok (.getfield 38, 3) := by decide +kernel
theorem dX0_exists_6 : decode cX0_exists 6 = .ok (.iconst 1, 1) := by decide +kernel
theorem dX0_exists_7 : decode cX0_exists 7 = .ok (.isub, 1) := by decide +kernel
theorem dX0_exists_8 : decode cX0_exists 8 = .ok (.invokestatic 47, 3) := by decide +kernel
theorem dX0_exists_11 : decode cX0_exists 11 = .ok (.ireturn, 1) := by decide +kernel
set_option maxHeartbeats 400000 in
set_option maxRecDepth 20000 in
theorem t_X0_exists (l : Launch) (ad : Nat → Nat) (D : va_G) (cs : Nat → ClassId) (g : Nat → Nat) (σ : Nat → Nat → Int32) (pre post : va_W) (n : Nat) (o : Int32) (hN : σ 0 0 = nI n) (hn : n ≤ 8) : CTi l yX0_exists cX0_exists 2 .boolean ({ frames := 1, cells := 0, slots := 0, locals := 22 }) ad D (tysW cs) (pre ++ (wK cs g (σ 0) ++ post)) [.ref (g 0), .int o] (bI (oneB n o = true)) (pre ++ (wK cs g (σ 0) ++ post)) := by
  refine CTi.of (lv0 := [(0, .ref (g 0)), (1, .int o)]) (by decide) rfl (Nat.le_of_ble_eq_true rfl) (fun p e s m args below meth c A C hr hlk => ?_)
  have C : Cx p s m args c cX0_exists 2 RX0 ad D (tysW cs) A := C
  refine r_iload_n (pc := 0) C 1 dX0_exists_0 rfl rfl ?_
  refine r_iconst (pc := 1) C 0 dX0_exists_1 (by decide) ?_
  refine r_aload_n (pc := 2) C 0 dX0_exists_2 rfl rfl ?_
  refine kg_count (pc := 3) C fl_RX0_38 dX0_exists_3 (σ 0 0) rfl ?_
  refine r_eqi (y := nI n) (hN) ?_
  refine r_iconst (pc := 6) C 1 dX0_exists_6 (by decide) ?_
  refine r_isub (pc := 7) C dX0_exists_7 ?_
  refine r_eqi (y := nI n - 1) (rfl) ?_
  refine rc_Ni (pc := 8) C (t_X5_isWithin l ad D (tysW cs) (wK cs g (σ 0)) pre post  o (0 : Int32) (nI n - 1) ) ms_X5_isWithin (C_nw C).2.2.2.2.2.2.1 rfl ⟨Nat.le_of_ble_eq_true rfl, Nat.le_of_ble_eq_true rfl⟩ ⟨rfl, rfl⟩ rfl rfl rfl (Nat.le_of_ble_eq_true rfl) dX0_exists_8 ?_
  refine r_eqi (y := bI (oneB n o = true)) (by rw [inB_one (by omega)]) ?_
  exact r_iret (pc := 11) C hr hlk dX0_exists_11 bI_nar (by first | rfl | simp [bI, *]) rfl
theorem t_X0_exists' (l : Launch) (ad : Nat → Nat) (D : va_G) (cs : Nat → ClassId) (g : Nat → Nat) (σ : Nat → Nat → Int32) (pre post : va_W) (f0_ : Nat → Int32) (e0_ : σ 0 = f0_) (n : Nat) (o : Int32) (hN : f0_ 0 = nI n) (hn : n ≤ 8) : CTi l yX0_exists cX0_exists 2 .boolean ({ frames := 1, cells := 0, slots := 0, locals := 22 }) ad D (tysW cs) (pre ++ (wK cs g f0_ ++ post)) [.ref (g 0), .int o] (bI (oneB n o = true)) (pre ++ (wK cs g f0_ ++ post)) := by
  subst e0_
  exact t_X0_exists l ad D cs g σ pre post n o hN hn
theorem dX0_isOnSteps_0 : decode cX0_isOnSteps 0 = .ok (.aload_n 0, 1) := by decide +kernel
theorem dX0_isOnSteps_1 : decode cX0_isOnSteps 1 = .ok (.getfield 25, 3) := by decide +kernel
theorem dX0_isOnSteps_4 : decode cX0_isOnSteps 4 = .ok (.iconst 3, 1) := by decide +kernel
theorem dX0_isOnSteps_5 : decode cX0_isOnSteps 5 = .ok (.aaload, 1) := by decide +kernel
theorem dX0_isOnSteps_6 : decode cX0_isOnSteps 6 = .ok (.iload_n 1, 1) := by decide +kernel
theorem dX0_isOnSteps_7 : decode cX0_isOnSteps 7 = .ok (.iaload, 1) := by decide +kernel
theorem dX0_isOnSteps_8 : decode cX0_isOnSteps 8 = .ok (.ifCond .ne 7, 3) := by decide +kernel
theorem dX0_isOnSteps_11 : decode cX0_isOnSteps 11 = .ok (.iconst 1, 1) := by decide +kernel
theorem dX0_isOnSteps_12 : decode cX0_isOnSteps 12 = .ok (.goto 4, 3) := by decide +kernel
theorem dX0_isOnSteps_15 : decode cX0_isOnSteps 15 = .ok (.iconst 0, 1) := by decide +kernel
theorem dX0_isOnSteps_16 : decode cX0_isOnSteps 16 = .ok (.ireturn, 1) := by decide +kernel
set_option maxHeartbeats 400000 in
set_option maxRecDepth 20000 in
theorem t_X0_isOnSteps (l : Launch) (ad : Nat → Nat) (D : va_G) (cs : Nat → ClassId) (g : Nat → Nat) (σ : Nat → Nat → Int32) (pre post : va_W) (n : Nat) (o : Nat) (hN : σ 0 0 = nI n) (hn : n ≤ 8) (ho : o < n) : CTi l yX0_isOnSteps cX0_isOnSteps 2 .boolean ({ frames := 0, cells := 0, slots := 0, locals := 0 }) ad D (tysW cs) (pre ++ (wK cs g (σ 0) ++ post)) [.ref (g 0), .int (nI o)] (bI (σ 0 (8 + 5 * o + 3) = 0)) (pre ++ (wK cs g (σ 0) ++ post)) := by
  refine CTi.of (lv0 := [(0, .ref (g 0)), (1, .int (nI o))]) (by decide) rfl (Nat.le_of_ble_eq_true rfl) (fun p e s m args below meth c A C hr hlk => ?_)
  have C : Cx p s m args c cX0_isOnSteps 2 RX0 ad D (tysW cs) A := C
  refine r_aload_n (pc := 0) C 0 dX0_isOnSteps_0 rfl rfl ?_
  refine kg_has (pc := 1) C fl_RX0_25 dX0_isOnSteps_1 ?_
  refine r_iconst (pc := 4) C 3 dX0_isOnSteps_4 (by decide) ?_
  refine ka_has (pc := 5) C 3 (rfl) (by omega) dX0_isOnSteps_5 ?_
  refine r_iload_n (pc := 6) C 1 dX0_isOnSteps_6 rfl rfl ?_
  refine kl_row (pc := 7) C 3 (by decide) o (rfl) (by omega) dX0_isOnSteps_7 (σ 0 (8 + 5 * o + 3)) rfl ?_
  refine r_if_ne (pc := 8) C 15 dX0_isOnSteps_8 (by decide) (fun c_1 => ?_) (fun c_1 => ?_)
  · skip
    refine r_iconst (pc := 15) C 0 dX0_isOnSteps_15 (by decide) ?_
    exact r_iret (pc := 16) C hr hlk dX0_isOnSteps_16 rfl (by simp [bI, *]) rfl
  · skip
    refine r_iconst (pc := 11) C 1 dX0_isOnSteps_11 (by decide) ?_
    refine r_goto (pc := 12) C 16 dX0_isOnSteps_12 (by decide) ?_
    exact r_iret (pc := 16) C hr hlk dX0_isOnSteps_16 rfl (by simp [bI, *]) rfl
theorem t_X0_isOnSteps' (l : Launch) (ad : Nat → Nat) (D : va_G) (cs : Nat → ClassId) (g : Nat → Nat) (σ : Nat → Nat → Int32) (pre post : va_W) (f0_ : Nat → Int32) (e0_ : σ 0 = f0_) (n : Nat) (o : Nat) (hN : f0_ 0 = nI n) (hn : n ≤ 8) (ho : o < n) : CTi l yX0_isOnSteps cX0_isOnSteps 2 .boolean ({ frames := 0, cells := 0, slots := 0, locals := 0 }) ad D (tysW cs) (pre ++ (wK cs g f0_ ++ post)) [.ref (g 0), .int (nI o)] (bI (f0_ (8 + 5 * o + 3) = 0)) (pre ++ (wK cs g f0_ ++ post)) := by
  subst e0_
  exact t_X0_isOnSteps l ad D cs g σ pre post n o hN hn ho
theorem dX0_isFull_0 : decode cX0_isFull 0 = .ok (.aload_n 0, 1) := by decide +kernel
theorem dX0_isFull_1 : decode cX0_isFull 1 = .ok (.getfield 38, 3) := by decide +kernel
theorem dX0_isFull_4 : decode cX0_isFull 4 = .ok (.bipush 8, 2) := by decide +kernel
theorem dX0_isFull_6 : decode cX0_isFull 6 = .ok (.if_icmp .lt 7, 3) := by decide +kernel
theorem dX0_isFull_9 : decode cX0_isFull 9 = .ok (.iconst 1, 1) := by decide +kernel
theorem dX0_isFull_10 : decode cX0_isFull 10 = .ok (.goto 4, 3) := by decide +kernel
theorem dX0_isFull_13 : decode cX0_isFull 13 = .ok (.iconst 0, 1) := by decide +kernel
theorem dX0_isFull_14 : decode cX0_isFull 14 = .ok (.ireturn, 1) := by decide +kernel
set_option maxHeartbeats 400000 in
set_option maxRecDepth 20000 in
theorem t_X0_isFull (l : Launch) (ad : Nat → Nat) (D : va_G) (cs : Nat → ClassId) (g : Nat → Nat) (σ : Nat → Nat → Int32) (pre post : va_W) (n : Nat) (hN : σ 0 0 = nI n) (hn : n ≤ 8) : CTi l yX0_isFull cX0_isFull 1 .boolean ({ frames := 0, cells := 0, slots := 0, locals := 0 }) ad D (tysW cs) (pre ++ (wK cs g (σ 0) ++ post)) [.ref (g 0)] (bI (n = 8)) (pre ++ (wK cs g (σ 0) ++ post)) := by
  refine CTi.of (lv0 := [(0, .ref (g 0))]) (by decide) rfl (Nat.le_of_ble_eq_true rfl) (fun p e s m args below meth c A C hr hlk => ?_)
  have C : Cx p s m args c cX0_isFull 1 RX0 ad D (tysW cs) A := C
  refine r_aload_n (pc := 0) C 0 dX0_isFull_0 rfl rfl ?_
  refine kg_count (pc := 1) C fl_RX0_38 dX0_isFull_1 (σ 0 0) rfl ?_
  refine r_eqi (y := nI n) (hN) ?_
  refine r_bipush (pc := 4) C 8 dX0_isFull_4 (by decide) ?_
  refine r_icmp_lt (pc := 6) C 13 dX0_isFull_6 (by decide) (fun c_1 => ?_) (fun c_1 => ?_)
  · skip
    have c_1 := nIc_lt_t (a := n) (b := 8) (by omega) (by omega) c_1
    refine r_iconst (pc := 13) C 0 dX0_isFull_13 (by decide) ?_
    exact r_iret (pc := 14) C hr hlk dX0_isFull_14 rfl (by first | exact bI_t (by omega) | exact bI_f (by omega)) rfl
  · skip
    have c_1 := nIc_lt_f (a := n) (b := 8) (by omega) (by omega) c_1
    refine r_iconst (pc := 9) C 1 dX0_isFull_9 (by decide) ?_
    refine r_goto (pc := 10) C 14 dX0_isFull_10 (by decide) ?_
    exact r_iret (pc := 14) C hr hlk dX0_isFull_14 rfl (by first | exact bI_t (by omega) | exact bI_f (by omega)) rfl
theorem t_X0_isFull' (l : Launch) (ad : Nat → Nat) (D : va_G) (cs : Nat → ClassId) (g : Nat → Nat) (σ : Nat → Nat → Int32) (pre post : va_W) (f0_ : Nat → Int32) (e0_ : σ 0 = f0_) (n : Nat) (hN : f0_ 0 = nI n) (hn : n ≤ 8) : CTi l yX0_isFull cX0_isFull 1 .boolean ({ frames := 0, cells := 0, slots := 0, locals := 0 }) ad D (tysW cs) (pre ++ (wK cs g f0_ ++ post)) [.ref (g 0)] (bI (n = 8)) (pre ++ (wK cs g f0_ ++ post)) := by
  subst e0_
  exact t_X0_isFull l ad D cs g σ pre post n hN hn
theorem dX0_sumOf_0 : decode cX0_sumOf 0 = .ok (.iconst 0, 1) := by decide +kernel
theorem dX0_sumOf_1 : decode cX0_sumOf 1 = .ok (.istore_n 2, 1) := by decide +kernel
theorem dX0_sumOf_2 : decode cX0_sumOf 2 = .ok (.iconst 0, 1) := by decide +kernel
theorem dX0_sumOf_3 : decode cX0_sumOf 3 = .ok (.istore_n 3, 1) := by decide +kernel
theorem dX0_sumOf_4 : decode cX0_sumOf 4 = .ok (.iload_n 3, 1) := by decide +kernel
theorem dX0_sumOf_5 : decode cX0_sumOf 5 = .ok (.aload_n 0, 1) := by decide +kernel
theorem dX0_sumOf_6 : decode cX0_sumOf 6 = .ok (.getfield 38, 3) := by decide +kernel
theorem dX0_sumOf_9 : decode cX0_sumOf 9 = .ok (.if_icmp .ge 20, 3) := by decide +kernel
theorem dX0_sumOf_12 : decode cX0_sumOf 12 = .ok (.iload_n 2, 1) := by decide +kernel
theorem dX0_sumOf_13 : decode cX0_sumOf 13 = .ok (.aload_n 0, 1) := by decide +kernel
theorem dX0_sumOf_14 : decode cX0_sumOf 14 = .ok (.getfield 25, 3) := by decide +kernel
theorem dX0_sumOf_17 : decode cX0_sumOf 17 = .ok (.iload_n 1, 1) := by decide +kernel
theorem dX0_sumOf_18 : decode cX0_sumOf 18 = .ok (.aaload, 1) := by decide +kernel
theorem dX0_sumOf_19 : decode cX0_sumOf 19 = .ok (.iload_n 3, 1) := by decide +kernel
theorem dX0_sumOf_20 : decode cX0_sumOf 20 = .ok (.iaload, 1) := by decide +kernel
theorem dX0_sumOf_21 : decode cX0_sumOf 21 = .ok (.iadd, 1) := by decide +kernel
theorem dX0_sumOf_22 : decode cX0_sumOf 22 = .ok (.istore_n 2, 1) := by decide +kernel
theorem dX0_sumOf_23 : decode cX0_sumOf 23 = .ok (.iinc 3 1, 3) := by decide +kernel
theorem dX0_sumOf_26 : decode cX0_sumOf 26 = .ok (.goto (-22), 3) := by decide +kernel
theorem dX0_sumOf_29 : decode cX0_sumOf 29 = .ok (.iload_n 2, 1) := by decide +kernel
theorem dX0_sumOf_30 : decode cX0_sumOf 30 = .ok (.ireturn, 1) := by decide +kernel
set_option maxHeartbeats 400000 in
set_option maxRecDepth 20000 in
theorem t_X0_sumOf (l : Launch) (ad : Nat → Nat) (D : va_G) (cs : Nat → ClassId) (g : Nat → Nat) (σ : Nat → Nat → Int32) (pre post : va_W) (n : Nat) (k : Nat) (hN : σ 0 0 = nI n) (hn : n ≤ 8) (hk : k < 5) : CTi l yX0_sumOf cX0_sumOf 4 .int ({ frames := 0, cells := 0, slots := 0, locals := 0 }) ad D (tysW cs) (pre ++ (wK cs g (σ 0) ++ post)) [.ref (g 0), .int (nI k)] (sumF (σ 0) k n) (pre ++ (wK cs g (σ 0) ++ post)) := by
  refine CTi.of (lv0 := [(0, .ref (g 0)), (1, .int (nI k))]) (by decide) rfl (Nat.le_of_ble_eq_true rfl) (fun p e s m args below meth c A C hr hlk => ?_)
  have C : Cx p s m args c cX0_sumOf 4 RX0 ad D (tysW cs) A := C
  refine r_iconst (pc := 0) C 0 dX0_sumOf_0 (by decide) ?_
  refine r_istore_n (pc := 1) C [(2, .int 0), (0, .ref (g 0)), (1, .int (nI k))] dX0_sumOf_1 rfl (by decide) rfl ?_
  refine r_iconst (pc := 2) C 0 dX0_sumOf_2 (by decide) ?_
  refine r_istore_n (pc := 3) C [(3, .int 0), (2, .int 0), (0, .ref (g 0)), (1, .int (nI k))] dX0_sumOf_3 rfl (by decide) rfl ?_
  refine r_pick (lv' := [(0, .ref (g 0)), (1, .int (nI k)), (2, .int 0), (3, .int 0)]) [2, 3, 1, 0] rfl ?_
  refine r_lv (lv' := [(0, .ref (g 0)), (1, .int (nI k)), (2, .int (sumF (σ 0) k 0)), (3, .int 0)]) (rfl) ?_
  refine r_loop (blkf := fun i => wK cs g (σ 0)) (lvf := fun i => [(0, .ref (g 0)), (1, .int (nI k)), (2, .int (sumF (σ 0) k i)), (3, .int (nI i))]) (fun i => True) n 0 (by omega) (trivial) (fun i h_i _ ih_4 => ?_)
  show VX p l e _ s m args below meth c _ D A 4 pre (wK cs g (σ 0)) post 4 [(0, .ref (g 0)), (1, .int (nI k)), (2, .int (sumF (σ 0) k i)), (3, .int (nI i))] []
  refine r_iload_n (pc := 4) C 3 dX0_sumOf_4 rfl rfl ?_
  refine r_aload_n (pc := 5) C 0 dX0_sumOf_5 rfl rfl ?_
  refine kg_count (pc := 6) C fl_RX0_38 dX0_sumOf_6 (σ 0 0) rfl ?_
  refine r_eqi (y := nI n) (hN) ?_
  refine r_icmp_ge (pc := 9) C 29 dX0_sumOf_9 (by decide) (fun c_1 => ?_) (fun c_1 => ?_)
  · skip
    have c_1 := nIc_ge_t (a := i) (b := n) (by omega) (by omega) c_1
    obtain rfl : n = i := by omega
    refine r_iload_n (pc := 29) C 2 dX0_sumOf_29 rfl rfl ?_
    exact r_iret (pc := 30) C hr hlk dX0_sumOf_30 rfl rfl rfl
  · skip
    have c_1 := nIc_ge_f (a := i) (b := n) (by omega) (by omega) c_1
    refine r_iload_n (pc := 12) C 2 dX0_sumOf_12 rfl rfl ?_
    refine r_aload_n (pc := 13) C 0 dX0_sumOf_13 rfl rfl ?_
    refine kg_has (pc := 14) C fl_RX0_25 dX0_sumOf_14 ?_
    refine r_iload_n (pc := 17) C 1 dX0_sumOf_17 rfl rfl ?_
    refine ka_has (pc := 18) C k (rfl) (by omega) dX0_sumOf_18 ?_
    refine r_iload_n (pc := 19) C 3 dX0_sumOf_19 rfl rfl ?_
    refine kl_row (pc := 20) C k (by omega) i (rfl) (by omega) dX0_sumOf_20 (σ 0 (8 + 5 * i + k)) rfl ?_
    refine r_iadd (pc := 21) C dX0_sumOf_21 ?_
    refine r_istore_n (pc := 22) C [(2, .int ((sumF (σ 0) k i) + (σ 0 (8 + 5 * i + k)))), (0, .ref (g 0)), (1, .int (nI k)), (3, .int (nI i))] dX0_sumOf_22 rfl (by decide) rfl ?_
    refine r_iinc (pc := 23) C (nI (i + 1)) 3 [(3, .int (nI (i + 1))), (2, .int ((sumF (σ 0) k i) + (σ 0 (8 + 5 * i + k)))), (0, .ref (g 0)), (1, .int (nI k))] dX0_sumOf_23 rfl (nI_1 _) (by decide) rfl ?_
    refine r_goto (pc := 26) C 4 dX0_sumOf_26 (by decide) ?_
    refine r_pick (lv' := [(0, .ref (g 0)), (1, .int (nI k)), (2, .int ((sumF (σ 0) k i) + (σ 0 (8 + 5 * i + k)))), (3, .int (nI (i + 1)))]) [2, 3, 1, 0] rfl ?_
    refine r_lv (lv' := [(0, .ref (g 0)), (1, .int (nI k)), (2, .int (sumF (σ 0) k (i + 1))), (3, .int (nI (i + 1)))]) (rfl) ?_
    exact ih_4 (by omega) (trivial)
theorem t_X0_sumOf' (l : Launch) (ad : Nat → Nat) (D : va_G) (cs : Nat → ClassId) (g : Nat → Nat) (σ : Nat → Nat → Int32) (pre post : va_W) (f0_ : Nat → Int32) (e0_ : σ 0 = f0_) (n : Nat) (k : Nat) (hN : f0_ 0 = nI n) (hn : n ≤ 8) (hk : k < 5) : CTi l yX0_sumOf cX0_sumOf 4 .int ({ frames := 0, cells := 0, slots := 0, locals := 0 }) ad D (tysW cs) (pre ++ (wK cs g f0_ ++ post)) [.ref (g 0), .int (nI k)] (sumF f0_ k n) (pre ++ (wK cs g f0_ ++ post)) := by
  subst e0_
  exact t_X0_sumOf l ad D cs g σ pre post n k hN hn hk
theorem dX0_draw_0 : decode cX0_draw 0 = .ok (.aload_n 0, 1) := by decide +kernel
theorem dX0_draw_1 : decode cX0_draw 1 = .ok (.aload_n 0, 1) := by decide +kernel
theorem dX0_draw_2 : decode cX0_draw 2 = .ok (.getfield 28, 3) := by decide +kernel
theorem dX0_draw_5 : decode cX0_draw 5 = .ok (.ldc 92, 2) := by decide +kernel
theorem dX0_draw_7 : decode cX0_draw 7 = .ok (.imul, 1) := by decide +kernel
theorem dX0_draw_8 : decode cX0_draw 8 = .ok (.sipush 12345, 3) := by decide +kernel
theorem dX0_draw_11 : decode cX0_draw 11 = .ok (.iadd, 1) := by decide +kernel
theorem dX0_draw_12 : decode cX0_draw 12 = .ok (.putfield 28, 3) := by decide +kernel
theorem dX0_draw_15 : decode cX0_draw 15 = .ok (.aload_n 0, 1) := by decide +kernel
theorem dX0_draw_16 : decode cX0_draw 16 = .ok (.getfield 28, 3) := by decide +kernel
theorem dX0_draw_19 : decode cX0_draw 19 = .ok (.bipush 16, 2) := by decide +kernel
theorem dX0_draw_21 : decode cX0_draw 21 = .ok (.iushr, 1) := by decide +kernel
theorem dX0_draw_22 : decode cX0_draw 22 = .ok (.ireturn, 1) := by decide +kernel
set_option maxHeartbeats 400000 in
set_option maxRecDepth 20000 in
theorem t_X0_draw (l : Launch) (ad : Nat → Nat) (D : va_G) (cs : Nat → ClassId) (g : Nat → Nat) (σ : Nat → Nat → Int32) (pre post : va_W) (n : Nat) (hN : σ 0 0 = nI n) (hn : n ≤ 8) : CTi l yX0_draw cX0_draw 1 .int ({ frames := 0, cells := 0, slots := 0, locals := 0 }) ad D (tysW cs) (pre ++ (wK cs g (σ 0) ++ post)) [.ref (g 0)] (nI (drF (σ 0))) (pre ++ (wK cs g (drw (σ 0)) ++ post)) := by
  refine CTi.of (lv0 := [(0, .ref (g 0))]) (by decide) rfl (Nat.le_of_ble_eq_true rfl) (fun p e s m args below meth c A C hr hlk => ?_)
  have C : Cx p s m args c cX0_draw 1 RX0 ad D (tysW cs) A := C
  refine r_aload_n (pc := 0) C 0 dX0_draw_0 rfl rfl ?_
  refine r_aload_n (pc := 1) C 0 dX0_draw_1 rfl rfl ?_
  refine kg_z (pc := 2) C fl_RX0_28 dX0_draw_2 (σ 0 2) rfl ?_
  refine r_ldc (pc := 5) C dX0_draw_5 cn_RX0_92 ?_
  refine r_imul (pc := 7) C dX0_draw_7 ?_
  refine r_sipush (pc := 8) C 12345 dX0_draw_8 (by decide) ?_
  refine r_iadd (pc := 11) C dX0_draw_11 ?_
  refine kp_z (pc := 12) C fl_RX0_28 dX0_draw_12 ?_
  refine r_blk (blk' := wK cs g (drw (σ 0))) (rfl) ?_
  refine r_aload_n (pc := 15) C 0 dX0_draw_15 rfl rfl ?_
  refine kg_z (pc := 16) C fl_RX0_28 dX0_draw_16 (drw (σ 0) 2) rfl ?_
  refine r_bipush (pc := 19) C 16 dX0_draw_19 (by decide) ?_
  refine r_iushr (pc := 21) C dX0_draw_21 ?_
  refine r_eqi (y := nI (drF (σ 0))) (ush16 _) ?_
  exact r_iret (pc := 22) C hr hlk dX0_draw_22 rfl rfl rfl
theorem t_X0_draw' (l : Launch) (ad : Nat → Nat) (D : va_G) (cs : Nat → ClassId) (g : Nat → Nat) (σ : Nat → Nat → Int32) (pre post : va_W) (f0_ : Nat → Int32) (e0_ : σ 0 = f0_) (n : Nat) (hN : f0_ 0 = nI n) (hn : n ≤ 8) : CTi l yX0_draw cX0_draw 1 .int ({ frames := 0, cells := 0, slots := 0, locals := 0 }) ad D (tysW cs) (pre ++ (wK cs g f0_ ++ post)) [.ref (g 0)] (nI (drF f0_)) (pre ++ (wK cs g (drw f0_) ++ post)) := by
  subst e0_
  exact t_X0_draw l ad D cs g σ pre post n hN hn
theorem dX0_setOnSteps_0 : decode cX0_setOnSteps 0 = .ok (.iconst 0, 1) := by decide +kernel
theorem dX0_setOnSteps_1 : decode cX0_setOnSteps 1 = .ok (.istore_n 1, 1) := by decide +kernel
theorem dX0_setOnSteps_2 : decode cX0_setOnSteps 2 = .ok (.iconst 0, 1) := by decide +kernel
theorem dX0_setOnSteps_3 : decode cX0_setOnSteps 3 = .ok (.istore_n 2, 1) := by decide +kernel
theorem dX0_setOnSteps_4 : decode cX0_setOnSteps 4 = .ok (.iload_n 2, 1) := by decide +kernel
theorem dX0_setOnSteps_5 : decode cX0_setOnSteps 5 = .ok (.aload_n 0, 1) := by decide +kernel
theorem dX0_setOnSteps_6 : decode cX0_setOnSteps 6 = .ok (.getfield 38, 3) := by decide +kernel
theorem dX0_setOnSteps_9 : decode cX0_setOnSteps 9 = .ok (.if_icmp .ge 23, 3) := by decide +kernel
theorem dX0_setOnSteps_12 : decode cX0_setOnSteps 12 = .ok (.aload_n 0, 1) := by decide +kernel
theorem dX0_setOnSteps_13 : decode cX0_setOnSteps 13 = .ok (.iload_n 2, 1) := by decide +kernel
theorem dX0_setOnSteps_14 : decode cX0_setOnSteps 14 = .ok (.invokevirtual 93, 3) := by decide +kernel
theorem dX0_setOnSteps_17 : decode cX0_setOnSteps 17 = .ok (.ifCond .eq 9, 3) := by decide +kernel
theorem dX0_setOnSteps_20 : decode cX0_setOnSteps 20 = .ok (.iload_n 1, 1) := by decide +kernel
theorem dX0_setOnSteps_21 : decode cX0_setOnSteps 21 = .ok (.iconst 1, 1) := by decide +kernel
theorem dX0_setOnSteps_22 : decode cX0_setOnSteps 22 = .ok (.iload_n 2, 1) := by decide +kernel
theorem dX0_setOnSteps_23 : decode cX0_setOnSteps 23 = .ok (.ishl, 1) := by decide +kernel
theorem dX0_setOnSteps_24 : decode cX0_setOnSteps 24 = .ok (.ior, 1) := by decide +kernel
theorem dX0_setOnSteps_25 : decode cX0_setOnSteps 25 = .ok (.istore_n 1, 1) := by decide +kernel
theorem dX0_setOnSteps_26 : decode cX0_setOnSteps 26 = .ok (.iinc 2 1, 3) := by decide +kernel
theorem dX0_setOnSteps_29 : decode cX0_setOnSteps 29 = .ok (.goto (-25), 3) := by decide +kernel
theorem dX0_setOnSteps_32 : decode cX0_setOnSteps 32 = .ok (.iload_n 1, 1) := by decide +kernel
theorem dX0_setOnSteps_33 : decode cX0_setOnSteps 33 = .ok (.ireturn, 1) := by decide +kernel
set_option maxHeartbeats 400000 in
set_option maxRecDepth 20000 in
theorem t_X0_setOnSteps (l : Launch) (ad : Nat → Nat) (D : va_G) (cs : Nat → ClassId) (g : Nat → Nat) (σ : Nat → Nat → Int32) (pre post : va_W) (n : Nat) (hN : σ 0 0 = nI n) (hn : n ≤ 8) : CTi l yX0_setOnSteps cX0_setOnSteps 3 .int ({ frames := 1, cells := 0, slots := 0, locals := 21 }) ad D (tysW cs) (pre ++ (wK cs g (σ 0) ++ post)) [.ref (g 0)] (onF (σ 0) n) (pre ++ (wK cs g (σ 0) ++ post)) := by
  refine CTi.of (lv0 := [(0, .ref (g 0))]) (by decide) rfl (Nat.le_of_ble_eq_true rfl) (fun p e s m args below meth c A C hr hlk => ?_)
  have C : Cx p s m args c cX0_setOnSteps 3 RX0 ad D (tysW cs) A := C
  refine r_iconst (pc := 0) C 0 dX0_setOnSteps_0 (by decide) ?_
  refine r_istore_n (pc := 1) C [(1, .int 0), (0, .ref (g 0))] dX0_setOnSteps_1 rfl (by decide) rfl ?_
  refine r_iconst (pc := 2) C 0 dX0_setOnSteps_2 (by decide) ?_
  refine r_istore_n (pc := 3) C [(2, .int 0), (1, .int 0), (0, .ref (g 0))] dX0_setOnSteps_3 rfl (by decide) rfl ?_
  refine r_pick (lv' := [(0, .ref (g 0)), (1, .int 0), (2, .int 0)]) [2, 1, 0] rfl ?_
  refine r_lv (lv' := [(0, .ref (g 0)), (1, .int (onF (σ 0) 0)), (2, .int 0)]) (rfl) ?_
  refine r_loop (blkf := fun i => wK cs g (σ 0)) (lvf := fun i => [(0, .ref (g 0)), (1, .int (onF (σ 0) i)), (2, .int (nI i))]) (fun i => True) n 0 (by omega) (trivial) (fun i h_i _ ih_4 => ?_)
  show VX p l e _ s m args below meth c _ D A 3 pre (wK cs g (σ 0)) post 4 [(0, .ref (g 0)), (1, .int (onF (σ 0) i)), (2, .int (nI i))] []
  refine r_iload_n (pc := 4) C 2 dX0_setOnSteps_4 rfl rfl ?_
  refine r_aload_n (pc := 5) C 0 dX0_setOnSteps_5 rfl rfl ?_
  refine kg_count (pc := 6) C fl_RX0_38 dX0_setOnSteps_6 (σ 0 0) rfl ?_
  refine r_eqi (y := nI n) (hN) ?_
  refine r_icmp_ge (pc := 9) C 32 dX0_setOnSteps_9 (by decide) (fun c_1 => ?_) (fun c_1 => ?_)
  · skip
    have c_1 := nIc_ge_t (a := i) (b := n) (by omega) (by omega) c_1
    obtain rfl : n = i := by omega
    refine r_iload_n (pc := 32) C 1 dX0_setOnSteps_32 rfl rfl ?_
    exact r_iret (pc := 33) C hr hlk dX0_setOnSteps_33 rfl rfl rfl
  · skip
    have c_1 := nIc_ge_f (a := i) (b := n) (by omega) (by omega) c_1
    refine r_aload_n (pc := 12) C 0 dX0_setOnSteps_12 rfl rfl ?_
    refine r_iload_n (pc := 13) C 2 dX0_setOnSteps_13 rfl rfl ?_
    refine rc_Vi (pc := 14) C (t_X0_isOnSteps' l ad D cs g (fun _ => σ 0) pre post (σ 0) (rfl) n i hN hn (by omega)) mv_X0_isOnSteps ml_RX0_93 rfl ⟨Nat.le_of_ble_eq_true rfl, Nat.le_of_ble_eq_true rfl⟩ ⟨rfl, rfl⟩ (q0 := 0) rfl rfl rfl rfl rfl rfl (Nat.le_of_ble_eq_true rfl) dX0_setOnSteps_14 ?_
    refine r_if_eq (pc := 17) C 26 dX0_setOnSteps_17 (by decide) (fun c_2 => ?_) (fun c_2 => ?_)
    · skip
      have c_2 := bI_0.mp c_2
      refine r_iinc (pc := 26) C (nI (i + 1)) 2 [(2, .int (nI (i + 1))), (0, .ref (g 0)), (1, .int (onF (σ 0) i))] dX0_setOnSteps_26 rfl (nI_1 _) (by decide) rfl ?_
      refine r_goto (pc := 29) C 4 dX0_setOnSteps_29 (by decide) ?_
      refine r_pick (lv' := [(0, .ref (g 0)), (1, .int (onF (σ 0) i)), (2, .int (nI (i + 1)))]) [1, 2, 0] rfl ?_
      refine r_lv (lv' := [(0, .ref (g 0)), (1, .int (onF (σ 0) (i + 1))), (2, .int (nI (i + 1)))]) (lvc rfl (lvc (congrArg Value.int (show (onF (σ 0) i : Int32) = onF (σ 0) (i + 1) from (by simp [onF, bitI, *]))) (lvc rfl rfl))) ?_
      exact ih_4 (by omega) (trivial)
    · skip
      have c_2 := bI_n.mp c_2
      refine r_iload_n (pc := 20) C 1 dX0_setOnSteps_20 rfl rfl ?_
      refine r_iconst (pc := 21) C 1 dX0_setOnSteps_21 (by decide) ?_
      refine r_iload_n (pc := 22) C 2 dX0_setOnSteps_22 rfl rfl ?_
      refine r_ishl (pc := 23) C dX0_setOnSteps_23 ?_
      refine r_ior (pc := 24) C dX0_setOnSteps_24 ?_
      refine r_istore_n (pc := 25) C [(1, .int ((onF (σ 0) i) ||| (1 <<< ((nI i) &&& 31)))), (0, .ref (g 0)), (2, .int (nI i))] dX0_setOnSteps_25 rfl (by decide) rfl ?_
      refine r_iinc (pc := 26) C (nI (i + 1)) 2 [(2, .int (nI (i + 1))), (1, .int ((onF (σ 0) i) ||| (1 <<< ((nI i) &&& 31)))), (0, .ref (g 0))] dX0_setOnSteps_26 rfl (nI_1 _) (by decide) rfl ?_
      refine r_goto (pc := 29) C 4 dX0_setOnSteps_29 (by decide) ?_
      refine r_pick (lv' := [(0, .ref (g 0)), (1, .int ((onF (σ 0) i) ||| (1 <<< ((nI i) &&& 31)))), (2, .int (nI (i + 1)))]) [2, 1, 0] rfl ?_
      refine r_lv (lv' := [(0, .ref (g 0)), (1, .int (onF (σ 0) (i + 1))), (2, .int (nI (i + 1)))]) (lvc rfl (lvc (congrArg Value.int (show ((onF (σ 0) i) ||| (1 <<< ((nI i) &&& 31)) : Int32) = onF (σ 0) (i + 1) from (by simp [onF, bitI, *]))) (lvc rfl rfl))) ?_
      exact ih_4 (by omega) (trivial)
theorem t_X0_setOnSteps' (l : Launch) (ad : Nat → Nat) (D : va_G) (cs : Nat → ClassId) (g : Nat → Nat) (σ : Nat → Nat → Int32) (pre post : va_W) (f0_ : Nat → Int32) (e0_ : σ 0 = f0_) (n : Nat) (hN : f0_ 0 = nI n) (hn : n ≤ 8) : CTi l yX0_setOnSteps cX0_setOnSteps 3 .int ({ frames := 1, cells := 0, slots := 0, locals := 21 }) ad D (tysW cs) (pre ++ (wK cs g f0_ ++ post)) [.ref (g 0)] (onF f0_ n) (pre ++ (wK cs g f0_ ++ post)) := by
  subst e0_
  exact t_X0_setOnSteps l ad D cs g σ pre post n hN hn
theorem dX0_areTwo_0 : decode cX0_areTwo 0 = .ok (.aload_n 0, 1) := by decide +kernel
theorem dX0_areTwo_1 : decode cX0_areTwo 1 = .ok (.iload_n 1, 1) := by decide +kernel
theorem dX0_areTwo_2 : decode cX0_areTwo 2 = .ok (.invokevirtual 51, 3) := by decide +kernel
theorem dX0_areTwo_5 : decode cX0_areTwo 5 = .ok (.ifCond .eq 20, 3) := by decide +kernel
theorem dX0_areTwo_8 : decode cX0_areTwo 8 = .ok (.aload_n 0, 1) := by decide +kernel
theorem dX0_areTwo_9 : decode cX0_areTwo 9 = .ok (.iload_n 2, 1) := by decide +kernel
theorem dX0_areTwo_10 : decode cX0_areTwo 10 = .ok (.invokevirtual 51, 3) := by decide +kernel
theorem dX0_areTwo_13 : decode cX0_areTwo 13 = .ok (.ifCond .eq 12, 3) := by decide +kernel
theorem dX0_areTwo_16 : decode cX0_areTwo 16 = .ok (.iload_n 1, 1) := by decide +kernel
theorem dX0_areTwo_17 : decode cX0_areTwo 17 = .ok (.iload_n 2, 1) := by decide +kernel
theorem dX0_areTwo_18 : decode cX0_areTwo 18 = .ok (.if_icmp .eq 7, 3) := by decide +kernel
theorem dX0_areTwo_21 : decode cX0_areTwo 21 = .ok (.iconst 1, 1) := by decide +kernel
theorem dX0_areTwo_22 : decode cX0_areTwo 22 = .ok (.goto 4, 3) := by decide +kernel
theorem dX0_areTwo_25 : decode cX0_areTwo 25 = .ok (.iconst 0, 1) := by decide +kernel
theorem dX0_areTwo_26 : decode cX0_areTwo 26 = .ok (.ireturn, 1) := by decide +kernel
set_option maxHeartbeats 400000 in
set_option maxRecDepth 20000 in
theorem t_X0_areTwo (l : Launch) (ad : Nat → Nat) (D : va_G) (cs : Nat → ClassId) (g : Nat → Nat) (σ : Nat → Nat → Int32) (pre post : va_W) (n : Nat) (o q : Int32) (hN : σ 0 0 = nI n) (hn : n ≤ 8) : CTi l yX0_areTwo cX0_areTwo 3 .boolean ({ frames := 2, cells := 0, slots := 0, locals := 43 }) ad D (tysW cs) (pre ++ (wK cs g (σ 0) ++ post)) [.ref (g 0), .int o, .int q] (bI (twoB n o q = true)) (pre ++ (wK cs g (σ 0) ++ post)) := by
  refine CTi.of (lv0 := [(0, .ref (g 0)), (1, .int o), (2, .int q)]) (by decide) rfl (Nat.le_of_ble_eq_true rfl) (fun p e s m args below meth c A C hr hlk => ?_)
  have C : Cx p s m args c cX0_areTwo 3 RX0 ad D (tysW cs) A := C
  refine r_aload_n (pc := 0) C 0 dX0_areTwo_0 rfl rfl ?_
  refine r_iload_n (pc := 1) C 1 dX0_areTwo_1 rfl rfl ?_
  refine rc_Vi (pc := 2) C (t_X0_exists' l ad D cs g (fun _ => σ 0) pre post (σ 0) (rfl) n o hN hn) mv_X0_exists ml_RX0_51 rfl ⟨Nat.le_of_ble_eq_true rfl, Nat.le_of_ble_eq_true rfl⟩ ⟨rfl, rfl⟩ (q0 := 0) rfl rfl rfl rfl rfl rfl (Nat.le_of_ble_eq_true rfl) dX0_areTwo_2 ?_
  refine r_if_eq (pc := 5) C 25 dX0_areTwo_5 (by decide) (fun c_1 => ?_) (fun c_1 => ?_)
  · skip
    have c_1 := bI_0.mp c_1
    refine r_iconst (pc := 25) C 0 dX0_areTwo_25 (by decide) ?_
    exact r_iret (pc := 26) C hr hlk dX0_areTwo_26 rfl (by simp_all [bI, twoB]) rfl
  · skip
    have c_1 := bI_n.mp c_1
    refine r_aload_n (pc := 8) C 0 dX0_areTwo_8 rfl rfl ?_
    refine r_iload_n (pc := 9) C 2 dX0_areTwo_9 rfl rfl ?_
    refine rc_Vi (pc := 10) C (t_X0_exists' l ad D cs g (fun _ => σ 0) pre post (σ 0) (rfl) n q hN hn) mv_X0_exists ml_RX0_51 rfl ⟨Nat.le_of_ble_eq_true rfl, Nat.le_of_ble_eq_true rfl⟩ ⟨rfl, rfl⟩ (q0 := 0) rfl rfl rfl rfl rfl rfl (Nat.le_of_ble_eq_true rfl) dX0_areTwo_10 ?_
    refine r_if_eq (pc := 13) C 25 dX0_areTwo_13 (by decide) (fun c_2 => ?_) (fun c_2 => ?_)
    · skip
      have c_2 := bI_0.mp c_2
      refine r_iconst (pc := 25) C 0 dX0_areTwo_25 (by decide) ?_
      exact r_iret (pc := 26) C hr hlk dX0_areTwo_26 rfl (by simp_all [bI, twoB]) rfl
    · skip
      have c_2 := bI_n.mp c_2
      refine r_iload_n (pc := 16) C 1 dX0_areTwo_16 rfl rfl ?_
      refine r_iload_n (pc := 17) C 2 dX0_areTwo_17 rfl rfl ?_
      refine r_icmp_eq (pc := 18) C 25 dX0_areTwo_18 (by decide) (fun c_3 => ?_) (fun c_3 => ?_)
      · skip
        refine r_iconst (pc := 25) C 0 dX0_areTwo_25 (by decide) ?_
        exact r_iret (pc := 26) C hr hlk dX0_areTwo_26 rfl (by simp_all [bI, twoB]) rfl
      · skip
        refine r_iconst (pc := 21) C 1 dX0_areTwo_21 (by decide) ?_
        refine r_goto (pc := 22) C 26 dX0_areTwo_22 (by decide) ?_
        exact r_iret (pc := 26) C hr hlk dX0_areTwo_26 rfl (by simp_all [bI, twoB]) rfl
theorem t_X0_areTwo' (l : Launch) (ad : Nat → Nat) (D : va_G) (cs : Nat → ClassId) (g : Nat → Nat) (σ : Nat → Nat → Int32) (pre post : va_W) (f0_ : Nat → Int32) (e0_ : σ 0 = f0_) (n : Nat) (o q : Int32) (hN : f0_ 0 = nI n) (hn : n ≤ 8) : CTi l yX0_areTwo cX0_areTwo 3 .boolean ({ frames := 2, cells := 0, slots := 0, locals := 43 }) ad D (tysW cs) (pre ++ (wK cs g f0_ ++ post)) [.ref (g 0), .int o, .int q] (bI (twoB n o q = true)) (pre ++ (wK cs g f0_ ++ post)) := by
  subst e0_
  exact t_X0_areTwo l ad D cs g σ pre post n o q hN hn
