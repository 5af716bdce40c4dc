theorem dX6_copyRow_0 : decode cX6_copyRow 0 = .ok (.iconst 0, 1) := by decide +kernel
theorem dX6_copyRow_1 : decode cX6_copyRow 1 = .ok (.istore_n 2, 1) := by decide +kernel
theorem dX6_copyRow_2 : decode cX6_copyRow 2 = .ok (.iload_n 2, 1) := by decide +kernel
theorem dX6_copyRow_3 : decode cX6_copyRow 3 = .ok (.bipush 48, 2) := by decide +kernel
theorem dX6_copyRow_5 : decode cX6_copyRow 5 = .ok (.if_icmp .ge 15, 3) := by decide +kernel
theorem dX6_copyRow_8 : decode cX6_copyRow 8 = .ok (.aload_n 1, 1) := by decide +kernel
theorem dX6_copyRow_9 : decode cX6_copyRow 9 = .ok (.iload_n 2, 1) := by decide +kernel
theorem dX6_copyRow_10 : decode cX6_copyRow 10 = .ok (.aload_n 0, 1) := by decide +kernel
theorem dX6_copyRow_11 : decode cX6_copyRow 11 = .ok (.iload_n 2, 1) := by decide +kernel
theorem dX6_copyRow_12 : decode cX6_copyRow 12 = .ok (.iaload, 1) := by decide +kernel
theorem dX6_copyRow_13 : decode cX6_copyRow 13 = .ok (.iastore, 1) := by decide +kernel
theorem dX6_copyRow_14 : decode cX6_copyRow 14 = .ok (.iinc 2 1, 3) := by decide +kernel
theorem dX6_copyRow_17 : decode cX6_copyRow 17 = .ok (.goto (-15), 3) := by decide +kernel
theorem dX6_copyRow_20 : decode cX6_copyRow 20 = .ok (.return_, 1) := by decide +kernel
set_option maxHeartbeats 400000 in
set_option maxRecDepth 20000 in
theorem t_X6_copyRow_0_2 (l : Launch) (ad : Nat → Nat) (D : va_G) (cs : Nat → ClassId) (h : Nat → Nat) (σ : Nat → Nat → Int32) (pre post : va_W)   : CTv l yX6_copyRow cX6_copyRow 3 ({ frames := 0, cells := 0, slots := 0, locals := 0 }) ad D (tysW cs) (pre ++ (wM cs h σ ++ post)) [.ref (h 1), .ref (h 3)] (pre ++ (wM cs h (su σ 2 (σ 0)) ++ post)) := by
  refine CTv.of (lv0 := [(0, .ref (h 1)), (1, .ref (h 3))]) (by decide) rfl (Nat.le_of_ble_eq_true rfl) (fun p e s m args below meth c A C hr hlk => ?_)
  have C : Cx p s m args c cX6_copyRow 3 RX6 ad D (tysW cs) A := C
  refine r_iconst (pc := 0) C 0 dX6_copyRow_0 (by decide) ?_
  refine r_istore_n (pc := 1) C [(2, .int 0), (0, .ref (h 1)), (1, .ref (h 3))] dX6_copyRow_1 rfl (by decide) rfl ?_
  refine r_pick (lv' := [(0, .ref (h 1)), (1, .ref (h 3)), (2, .int 0)]) [1, 2, 0] rfl ?_
  refine r_blk (blk' := wM cs h (su σ 2 (cpN (σ 0) (σ 2) 0))) (by rw [show (cpN (σ 0) (σ 2) 0 : Nat → Int32) = σ 2 from (cpN_0).symm] <;> rfl) ?_
  refine r_loop (blkf := fun i => wM cs h (su σ 2 (cpN (σ 0) (σ 2) i))) (lvf := fun i => [(0, .ref (h 1)), (1, .ref (h 3)), (2, .int (nI i))]) (fun i => True) 48 0 (by omega) (trivial) (fun i h_i _ ih => ?_)
  show VX p l e _ s m args below meth c _ D A 3 pre (wM cs h (su σ 2 (cpN (σ 0) (σ 2) i))) post 2 [(0, .ref (h 1)), (1, .ref (h 3)), (2, .int (nI i))] []
  refine r_iload_n (pc := 2) C 2 dX6_copyRow_2 rfl rfl ?_
  refine r_bipush (pc := 3) C 48 dX6_copyRow_3 (by decide) ?_
  refine r_icmp_ge (pc := 5) C 20 dX6_copyRow_5 (by decide) (fun c_1 => ?_) (fun c_1 => ?_)
  · skip
    have c_1 := nIc_ge_t (a := i) (b := 48) (by omega) (by omega) c_1
    obtain rfl : i = 48 := by omega
    refine cl_aside (σ 0) (fun j hj => cpN_lt hj) ?_
    refine r_blk (blk' := wM cs h (su σ 2 (σ 0))) (congrArg (wM cs h) (by rw [su_su])) ?_
    exact r_vret (pc := 20) C hr hlk dX6_copyRow_20 rfl
  · skip
    have c_1 := nIc_ge_f (a := i) (b := 48) (by omega) (by omega) c_1
    refine r_aload_n (pc := 8) C 1 dX6_copyRow_8 rfl rfl ?_
    refine r_iload_n (pc := 9) C 2 dX6_copyRow_9 rfl rfl ?_
    refine r_aload_n (pc := 10) C 0 dX6_copyRow_10 rfl rfl ?_
    refine r_iload_n (pc := 11) C 2 dX6_copyRow_11 rfl rfl ?_
    refine al_s (pc := 12) C i (rfl) (by omega) dX6_copyRow_12 (σ 0 i) (congrFun ((su_nn (by decide))) _) ?_
    refine as_aside (pc := 13) C i (rfl) (by omega) dX6_copyRow_13 (cpN (σ 0) (σ 2) i) (su_at) ?_
    refine r_blk (blk' := wM cs h (su σ 2 (upd (cpN (σ 0) (σ 2) i) i (σ 0 i)))) (congrArg (wM cs h) (by rw [su_su])) ?_
    refine r_iinc (pc := 14) C (nI (i + 1)) 2 [(2, .int (nI (i + 1))), (0, .ref (h 1)), (1, .ref (h 3))] dX6_copyRow_14 rfl (nI_1 _) (by decide) rfl ?_
    refine r_goto (pc := 17) C 2 dX6_copyRow_17 (by decide) ?_
    refine r_pick (lv' := [(0, .ref (h 1)), (1, .ref (h 3)), (2, .int (nI (i + 1)))]) [1, 2, 0] rfl ?_
    refine r_blk (blk' := wM cs h (su σ 2 (cpN (σ 0) (σ 2) (i + 1)))) (by rw [show (cpN (σ 0) (σ 2) (i + 1) : Nat → Int32) = upd (cpN (σ 0) (σ 2) i) i (σ 0 i) from (cpN_s).symm] <;> rfl) ?_
    exact ih (by omega) (trivial)
theorem t_X6_copyRow_0_2' (l : Launch) (ad : Nat → Nat) (D : va_G) (cs : Nat → ClassId) (h : Nat → Nat) (σ : Nat → Nat → Int32) (pre post : va_W) (f0_ : Nat → Int32) (e0_ : σ 0 = f0_)   : CTv l yX6_copyRow cX6_copyRow 3 ({ frames := 0, cells := 0, slots := 0, locals := 0 }) ad D (tysW cs) (pre ++ (wM cs h σ ++ post)) [.ref (h 1), .ref (h 3)] (pre ++ (wM cs h (su σ 2 f0_) ++ post)) := by
  subst e0_
  exact t_X6_copyRow_0_2 l ad D cs h σ pre post  
set_option maxHeartbeats 400000 in
set_option maxRecDepth 20000 in
theorem t_X6_copyRow_2_0 (l : Launch) (ad : Nat → Nat) (D : va_G) (cs : Nat → ClassId) (h : Nat → Nat) (σ : Nat → Nat → Int32) (pre post : va_W)   : CTv l yX6_copyRow cX6_copyRow 3 ({ frames := 0, cells := 0, slots := 0, locals := 0 }) ad D (tysW cs) (pre ++ (wM cs h σ ++ post)) [.ref (h 3), .ref (h 1)] (pre ++ (wM cs h (su σ 0 (σ 2)) ++ post)) := by
  refine CTv.of (lv0 := [(0, .ref (h 3)), (1, .ref (h 1))]) (by decide) rfl (Nat.le_of_ble_eq_true rfl) (fun p e s m args below meth c A C hr hlk => ?_)
  have C : Cx p s m args c cX6_copyRow 3 RX6 ad D (tysW cs) A := C
  refine r_iconst (pc := 0) C 0 dX6_copyRow_0 (by decide) ?_
  refine r_istore_n (pc := 1) C [(2, .int 0), (0, .ref (h 3)), (1, .ref (h 1))] dX6_copyRow_1 rfl (by decide) rfl ?_
  refine r_pick (lv' := [(0, .ref (h 3)), (1, .ref (h 1)), (2, .int 0)]) [1, 2, 0] rfl ?_
  refine r_blk (blk' := wM cs h (su σ 0 (cpN (σ 2) (σ 0) 0))) (by rw [show (cpN (σ 2) (σ 0) 0 : Nat → Int32) = σ 0 from (cpN_0).symm] <;> rfl) ?_
  refine r_loop (blkf := fun i => wM cs h (su σ 0 (cpN (σ 2) (σ 0) i))) (lvf := fun i => [(0, .ref (h 3)), (1, .ref (h 1)), (2, .int (nI i))]) (fun i => True) 48 0 (by omega) (trivial) (fun i h_i _ ih => ?_)
  show VX p l e _ s m args below meth c _ D A 3 pre (wM cs h (su σ 0 (cpN (σ 2) (σ 0) i))) post 2 [(0, .ref (h 3)), (1, .ref (h 1)), (2, .int (nI i))] []
  refine r_iload_n (pc := 2) C 2 dX6_copyRow_2 rfl rfl ?_
  refine r_bipush (pc := 3) C 48 dX6_copyRow_3 (by decide) ?_
  refine r_icmp_ge (pc := 5) C 20 dX6_copyRow_5 (by decide) (fun c_1 => ?_) (fun c_1 => ?_)
  · skip
    have c_1 := nIc_ge_t (a := i) (b := 48) (by omega) (by omega) c_1
    obtain rfl : i = 48 := by omega
    refine cl_s (σ 2) (fun j hj => cpN_lt hj) ?_
    refine r_blk (blk' := wM cs h (su σ 0 (σ 2))) (congrArg (wM cs h) (by rw [su_su])) ?_
    exact r_vret (pc := 20) C hr hlk dX6_copyRow_20 rfl
  · skip
    have c_1 := nIc_ge_f (a := i) (b := 48) (by omega) (by omega) c_1
    refine r_aload_n (pc := 8) C 1 dX6_copyRow_8 rfl rfl ?_
    refine r_iload_n (pc := 9) C 2 dX6_copyRow_9 rfl rfl ?_
    refine r_aload_n (pc := 10) C 0 dX6_copyRow_10 rfl rfl ?_
    refine r_iload_n (pc := 11) C 2 dX6_copyRow_11 rfl rfl ?_
    refine al_aside (pc := 12) C i (rfl) (by omega) dX6_copyRow_12 (σ 2 i) (congrFun ((su_nn (by decide))) _) ?_
    refine as_s (pc := 13) C i (rfl) (by omega) dX6_copyRow_13 (cpN (σ 2) (σ 0) i) (su_at) ?_
    refine r_blk (blk' := wM cs h (su σ 0 (upd (cpN (σ 2) (σ 0) i) i (σ 2 i)))) (congrArg (wM cs h) (by rw [su_su])) ?_
    refine r_iinc (pc := 14) C (nI (i + 1)) 2 [(2, .int (nI (i + 1))), (0, .ref (h 3)), (1, .ref (h 1))] dX6_copyRow_14 rfl (nI_1 _) (by decide) rfl ?_
    refine r_goto (pc := 17) C 2 dX6_copyRow_17 (by decide) ?_
    refine r_pick (lv' := [(0, .ref (h 3)), (1, .ref (h 1)), (2, .int (nI (i + 1)))]) [1, 2, 0] rfl ?_
    refine r_blk (blk' := wM cs h (su σ 0 (cpN (σ 2) (σ 0) (i + 1)))) (by rw [show (cpN (σ 2) (σ 0) (i + 1) : Nat → Int32) = upd (cpN (σ 2) (σ 0) i) i (σ 2 i) from (cpN_s).symm] <;> rfl) ?_
    exact ih (by omega) (trivial)
theorem t_X6_copyRow_2_0' (l : Launch) (ad : Nat → Nat) (D : va_G) (cs : Nat → ClassId) (h : Nat → Nat) (σ : Nat → Nat → Int32) (pre post : va_W) (f2_ : Nat → Int32) (e2_ : σ 2 = f2_)   : CTv l yX6_copyRow cX6_copyRow 3 ({ frames := 0, cells := 0, slots := 0, locals := 0 }) ad D (tysW cs) (pre ++ (wM cs h σ ++ post)) [.ref (h 3), .ref (h 1)] (pre ++ (wM cs h (su σ 0 (f2_)) ++ post)) := by
  subst e2_
  exact t_X6_copyRow_2_0 l ad D cs h σ pre post  
set_option maxHeartbeats 400000 in
set_option maxRecDepth 20000 in
theorem t_X6_copyRow_0_3 (l : Launch) (ad : Nat → Nat) (D : va_G) (cs : Nat → ClassId) (h : Nat → Nat) (σ : Nat → Nat → Int32) (pre post : va_W)   : CTv l yX6_copyRow cX6_copyRow 3 ({ frames := 0, cells := 0, slots := 0, locals := 0 }) ad D (tysW cs) (pre ++ (wM cs h σ ++ post)) [.ref (h 1), .ref (h 4)] (pre ++ (wM cs h (su σ 3 (σ 0)) ++ post)) := by
  refine CTv.of (lv0 := [(0, .ref (h 1)), (1, .ref (h 4))]) (by decide) rfl (Nat.le_of_ble_eq_true rfl) (fun p e s m args below meth c A C hr hlk => ?_)
  have C : Cx p s m args c cX6_copyRow 3 RX6 ad D (tysW cs) A := C
  refine r_iconst (pc := 0) C 0 dX6_copyRow_0 (by decide) ?_
  refine r_istore_n (pc := 1) C [(2, .int 0), (0, .ref (h 1)), (1, .ref (h 4))] dX6_copyRow_1 rfl (by decide) rfl ?_
  refine r_pick (lv' := [(0, .ref (h 1)), (1, .ref (h 4)), (2, .int 0)]) [1, 2, 0] rfl ?_
  refine r_blk (blk' := wM cs h (su σ 3 (cpN (σ 0) (σ 3) 0))) (by rw [show (cpN (σ 0) (σ 3) 0 : Nat → Int32) = σ 3 from (cpN_0).symm] <;> rfl) ?_
  refine r_loop (blkf := fun i => wM cs h (su σ 3 (cpN (σ 0) (σ 3) i))) (lvf := fun i => [(0, .ref (h 1)), (1, .ref (h 4)), (2, .int (nI i))]) (fun i => True) 48 0 (by omega) (trivial) (fun i h_i _ ih => ?_)
  show VX p l e _ s m args below meth c _ D A 3 pre (wM cs h (su σ 3 (cpN (σ 0) (σ 3) i))) post 2 [(0, .ref (h 1)), (1, .ref (h 4)), (2, .int (nI i))] []
  refine r_iload_n (pc := 2) C 2 dX6_copyRow_2 rfl rfl ?_
  refine r_bipush (pc := 3) C 48 dX6_copyRow_3 (by decide) ?_
  refine r_icmp_ge (pc := 5) C 20 dX6_copyRow_5 (by decide) (fun c_1 => ?_) (fun c_1 => ?_)
  · skip
    have c_1 := nIc_ge_t (a := i) (b := 48) (by omega) (by omega) c_1
    obtain rfl : i = 48 := by omega
    refine cl_before (σ 0) (fun j hj => cpN_lt hj) ?_
    refine r_blk (blk' := wM cs h (su σ 3 (σ 0))) (congrArg (wM cs h) (by rw [su_su])) ?_
    exact r_vret (pc := 20) C hr hlk dX6_copyRow_20 rfl
  · skip
    have c_1 := nIc_ge_f (a := i) (b := 48) (by omega) (by omega) c_1
    refine r_aload_n (pc := 8) C 1 dX6_copyRow_8 rfl rfl ?_
    refine r_iload_n (pc := 9) C 2 dX6_copyRow_9 rfl rfl ?_
    refine r_aload_n (pc := 10) C 0 dX6_copyRow_10 rfl rfl ?_
    refine r_iload_n (pc := 11) C 2 dX6_copyRow_11 rfl rfl ?_
    refine al_s (pc := 12) C i (rfl) (by omega) dX6_copyRow_12 (σ 0 i) (congrFun ((su_nn (by decide))) _) ?_
    refine as_before (pc := 13) C i (rfl) (by omega) dX6_copyRow_13 (cpN (σ 0) (σ 3) i) (su_at) ?_
    refine r_blk (blk' := wM cs h (su σ 3 (upd (cpN (σ 0) (σ 3) i) i (σ 0 i)))) (congrArg (wM cs h) (by rw [su_su])) ?_
    refine r_iinc (pc := 14) C (nI (i + 1)) 2 [(2, .int (nI (i + 1))), (0, .ref (h 1)), (1, .ref (h 4))] dX6_copyRow_14 rfl (nI_1 _) (by decide) rfl ?_
    refine r_goto (pc := 17) C 2 dX6_copyRow_17 (by decide) ?_
    refine r_pick (lv' := [(0, .ref (h 1)), (1, .ref (h 4)), (2, .int (nI (i + 1)))]) [1, 2, 0] rfl ?_
    refine r_blk (blk' := wM cs h (su σ 3 (cpN (σ 0) (σ 3) (i + 1)))) (by rw [show (cpN (σ 0) (σ 3) (i + 1) : Nat → Int32) = upd (cpN (σ 0) (σ 3) i) i (σ 0 i) from (cpN_s).symm] <;> rfl) ?_
    exact ih (by omega) (trivial)
theorem t_X6_copyRow_0_3' (l : Launch) (ad : Nat → Nat) (D : va_G) (cs : Nat → ClassId) (h : Nat → Nat) (σ : Nat → Nat → Int32) (pre post : va_W) (f0_ : Nat → Int32) (e0_ : σ 0 = f0_)   : CTv l yX6_copyRow cX6_copyRow 3 ({ frames := 0, cells := 0, slots := 0, locals := 0 }) ad D (tysW cs) (pre ++ (wM cs h σ ++ post)) [.ref (h 1), .ref (h 4)] (pre ++ (wM cs h (su σ 3 f0_) ++ post)) := by
  subst e0_
  exact t_X6_copyRow_0_3 l ad D cs h σ pre post  
set_option maxHeartbeats 400000 in
set_option maxRecDepth 20000 in
theorem t_X6_copyRow_3_0 (l : Launch) (ad : Nat → Nat) (D : va_G) (cs : Nat → ClassId) (h : Nat → Nat) (σ : Nat → Nat → Int32) (pre post : va_W)   : CTv l yX6_copyRow cX6_copyRow 3 ({ frames := 0, cells := 0, slots := 0, locals := 0 }) ad D (tysW cs) (pre ++ (wM cs h σ ++ post)) [.ref (h 4), .ref (h 1)] (pre ++ (wM cs h (su σ 0 (σ 3)) ++ post)) := by
  refine CTv.of (lv0 := [(0, .ref (h 4)), (1, .ref (h 1))]) (by decide) rfl (Nat.le_of_ble_eq_true rfl) (fun p e s m args below meth c A C hr hlk => ?_)
  have C : Cx p s m args c cX6_copyRow 3 RX6 ad D (tysW cs) A := C
  refine r_iconst (pc := 0) C 0 dX6_copyRow_0 (by decide) ?_
  refine r_istore_n (pc := 1) C [(2, .int 0), (0, .ref (h 4)), (1, .ref (h 1))] dX6_copyRow_1 rfl (by decide) rfl ?_
  refine r_pick (lv' := [(0, .ref (h 4)), (1, .ref (h 1)), (2, .int 0)]) [1, 2, 0] rfl ?_
  refine r_blk (blk' := wM cs h (su σ 0 (cpN (σ 3) (σ 0) 0))) (by rw [show (cpN (σ 3) (σ 0) 0 : Nat → Int32) = σ 0 from (cpN_0).symm] <;> rfl) ?_
  refine r_loop (blkf := fun i => wM cs h (su σ 0 (cpN (σ 3) (σ 0) i))) (lvf := fun i => [(0, .ref (h 4)), (1, .ref (h 1)), (2, .int (nI i))]) (fun i => True) 48 0 (by omega) (trivial) (fun i h_i _ ih => ?_)
  show VX p l e _ s m args below meth c _ D A 3 pre (wM cs h (su σ 0 (cpN (σ 3) (σ 0) i))) post 2 [(0, .ref (h 4)), (1, .ref (h 1)), (2, .int (nI i))] []
  refine r_iload_n (pc := 2) C 2 dX6_copyRow_2 rfl rfl ?_
  refine r_bipush (pc := 3) C 48 dX6_copyRow_3 (by decide) ?_
  refine r_icmp_ge (pc := 5) C 20 dX6_copyRow_5 (by decide) (fun c_1 => ?_) (fun c_1 => ?_)
  · skip
    have c_1 := nIc_ge_t (a := i) (b := 48) (by omega) (by omega) c_1
    obtain rfl : i = 48 := by omega
    refine cl_s (σ 3) (fun j hj => cpN_lt hj) ?_
    refine r_blk (blk' := wM cs h (su σ 0 (σ 3))) (congrArg (wM cs h) (by rw [su_su])) ?_
    exact r_vret (pc := 20) C hr hlk dX6_copyRow_20 rfl
  · skip
    have c_1 := nIc_ge_f (a := i) (b := 48) (by omega) (by omega) c_1
    refine r_aload_n (pc := 8) C 1 dX6_copyRow_8 rfl rfl ?_
    refine r_iload_n (pc := 9) C 2 dX6_copyRow_9 rfl rfl ?_
    refine r_aload_n (pc := 10) C 0 dX6_copyRow_10 rfl rfl ?_
    refine r_iload_n (pc := 11) C 2 dX6_copyRow_11 rfl rfl ?_
    refine al_before (pc := 12) C i (rfl) (by omega) dX6_copyRow_12 (σ 3 i) (congrFun ((su_nn (by decide))) _) ?_
    refine as_s (pc := 13) C i (rfl) (by omega) dX6_copyRow_13 (cpN (σ 3) (σ 0) i) (su_at) ?_
    refine r_blk (blk' := wM cs h (su σ 0 (upd (cpN (σ 3) (σ 0) i) i (σ 3 i)))) (congrArg (wM cs h) (by rw [su_su])) ?_
    refine r_iinc (pc := 14) C (nI (i + 1)) 2 [(2, .int (nI (i + 1))), (0, .ref (h 4)), (1, .ref (h 1))] dX6_copyRow_14 rfl (nI_1 _) (by decide) rfl ?_
    refine r_goto (pc := 17) C 2 dX6_copyRow_17 (by decide) ?_
    refine r_pick (lv' := [(0, .ref (h 4)), (1, .ref (h 1)), (2, .int (nI (i + 1)))]) [1, 2, 0] rfl ?_
    refine r_blk (blk' := wM cs h (su σ 0 (cpN (σ 3) (σ 0) (i + 1)))) (by rw [show (cpN (σ 3) (σ 0) (i + 1) : Nat → Int32) = upd (cpN (σ 3) (σ 0) i) i (σ 3 i) from (cpN_s).symm] <;> rfl) ?_
    exact ih (by omega) (trivial)
theorem t_X6_copyRow_3_0' (l : Launch) (ad : Nat → Nat) (D : va_G) (cs : Nat → ClassId) (h : Nat → Nat) (σ : Nat → Nat → Int32) (pre post : va_W) (f3_ : Nat → Int32) (e3_ : σ 3 = f3_)   : CTv l yX6_copyRow cX6_copyRow 3 ({ frames := 0, cells := 0, slots := 0, locals := 0 }) ad D (tysW cs) (pre ++ (wM cs h σ ++ post)) [.ref (h 4), .ref (h 1)] (pre ++ (wM cs h (su σ 0 (f3_)) ++ post)) := by
  subst e3_
  exact t_X6_copyRow_3_0 l ad D cs h σ pre post  
theorem dX6_purseBehind_0 : decode cX6_purseBehind 0 = .ok (.aload_n 0, 1) := by decide +kernel
theorem dX6_purseBehind_1 : decode cX6_purseBehind 1 = .ok (.getfield 7, 3) := by decide +kernel
theorem dX6_purseBehind_4 : decode cX6_purseBehind 4 = .ok (.aload_n 0, 1) := by decide +kernel
theorem dX6_purseBehind_5 : decode cX6_purseBehind 5 = .ok (.getfield 16, 3) := by decide +kernel
theorem dX6_purseBehind_8 : decode cX6_purseBehind 8 = .ok (.invokestatic 134, 3) := by decide +kernel
theorem dX6_purseBehind_11 : decode cX6_purseBehind 11 = .ok (.aload_n 0, 1) := by decide +kernel
theorem dX6_purseBehind_12 : decode cX6_purseBehind 12 = .ok (.iload_n 2, 1) := by decide +kernel
theorem dX6_purseBehind_13 : decode cX6_purseBehind 13 = .ok (.invokevirtual 201, 3) := by decide +kernel
theorem dX6_purseBehind_16 : decode cX6_purseBehind 16 = .ok (.aload_n 0, 1) := by decide +kernel
theorem dX6_purseBehind_17 : decode cX6_purseBehind 17 = .ok (.iload_n 1, 1) := by decide +kernel
theorem dX6_purseBehind_18 : decode cX6_purseBehind 18 = .ok (.iconst 4, 1) := by decide +kernel
theorem dX6_purseBehind_19 : decode cX6_purseBehind 19 = .ok (.invokevirtual 156, 3) := by decide +kernel
theorem dX6_purseBehind_22 : decode cX6_purseBehind 22 = .ok (.istore_n 3, 1) := by decide +kernel
theorem dX6_purseBehind_23 : decode cX6_purseBehind 23 = .ok (.aload_n 0, 1) := by decide +kernel
theorem dX6_purseBehind_24 : decode cX6_purseBehind 24 = .ok (.getfield 16, 3) := by decide +kernel
theorem dX6_purseBehind_27 : decode cX6_purseBehind 27 = .ok (.aload_n 0, 1) := by decide +kernel
theorem dX6_purseBehind_28 : decode cX6_purseBehind 28 = .ok (.getfield 7, 3) := by decide +kernel
theorem dX6_purseBehind_31 : decode cX6_purseBehind 31 = .ok (.invokestatic 134, 3) := by decide +kernel
theorem dX6_purseBehind_34 : decode cX6_purseBehind 34 = .ok (.iload_n 3, 1) := by decide +kernel
theorem dX6_purseBehind_35 : decode cX6_purseBehind 35 = .ok (.ireturn, 1) := by decide +kernel
set_option maxHeartbeats 400000 in
set_option maxRecDepth 20000 in
theorem t_X6_purseBehind (l : Launch) (ad : Nat → Nat) (D : va_G) (cs : Nat → ClassId) (h : Nat → Nat) (σ : Nat → Nat → Int32) (pre post : va_W) (n : Nat) (o k : Nat) (hN : σ 0 0 = nI n) (hn : n ≤ 8) (ho : o < n) (hk : k ≤ 60) : CTi l yX6_purseBehind cX6_purseBehind 4 .int ({ frames := 7, cells := 0, slots := 0, locals := 157 }) ad D (tysW cs) (pre ++ (wM cs h σ ++ post)) [.ref (h 0), .int (nI o), .int (nI k)] (purF n (σ 0) o k) (pre ++ (wM cs h (su σ 2 (σ 0)) ++ post)) := by
  refine CTi.of (lv0 := [(0, .ref (h 0)), (1, .int (nI o)), (2, .int (nI k))]) (by decide) rfl (Nat.le_of_ble_eq_true rfl) (fun p e s m args below meth c A C hr hlk => ?_)
  have C : Cx p s m args c cX6_purseBehind 4 RX6 ad D (tysW cs) A := C
  refine r_aload_n (pc := 0) C 0 dX6_purseBehind_0 rfl rfl ?_
  refine mg_s (pc := 1) C fl_RX6_7 dX6_purseBehind_1 ?_
  refine r_aload_n (pc := 4) C 0 dX6_purseBehind_4 rfl rfl ?_
  refine mg_aside (pc := 5) C fl_RX6_16 dX6_purseBehind_5 ?_
  refine rc_Sv (pc := 8) C (t_X6_copyRow_0_2' l ad D cs h σ pre post (σ 0) (rfl)  ) ms_X6_copyRow ml_RX6_134 rfl ⟨Nat.le_of_ble_eq_true rfl, Nat.le_of_ble_eq_true rfl⟩ ⟨rfl, rfl⟩ rfl rfl rfl (Nat.le_of_ble_eq_true rfl) dX6_purseBehind_8 ?_
  refine r_aload_n (pc := 11) C 0 dX6_purseBehind_11 rfl rfl ?_
  refine r_iload_n (pc := 12) C 2 dX6_purseBehind_12 rfl rfl ?_
  refine rc_Vv (pc := 13) C (t_X6_goes' l ad D cs h (su σ 2 (σ 0)) pre post (σ 0) ((su_nn (by decide))) n k hN hn hk) mv_X6_goes ml_RX6_201 rfl ⟨Nat.le_of_ble_eq_true rfl, Nat.le_of_ble_eq_true rfl⟩ ⟨rfl, rfl⟩ (q0 := 0) rfl rfl rfl rfl rfl rfl (Nat.le_of_ble_eq_true rfl) dX6_purseBehind_13 ?_
  refine r_blk (blk' := wM cs h (su (su σ 0 (daysF n (σ 0) k)) 2 (σ 0))) (congrArg (wM cs h) (by rw [su_cm (k := 2) (j := 0) (by decide)])) ?_
  have f_1 : daysF n (σ 0) k 0 = nI n := daysF_0 hN
  refine r_aload_n (pc := 16) C 0 dX6_purseBehind_16 rfl rfl ?_
  refine r_iload_n (pc := 17) C 1 dX6_purseBehind_17 rfl rfl ?_
  refine r_iconst (pc := 18) C 4 dX6_purseBehind_18 (by decide) ?_
  refine rc_Vi (pc := 19) C (t_X6_its' l ad D cs h (su (su σ 0 (daysF n (σ 0) k)) 2 (σ 0)) pre post (daysF n (σ 0) k) ((su_nn (by decide)).trans su_at) o 4 (by omega) (by omega)) mv_X6_its ml_RX6_156 rfl ⟨Nat.le_of_ble_eq_true rfl, Nat.le_of_ble_eq_true rfl⟩ ⟨rfl, rfl⟩ (q0 := 0) rfl rfl rfl rfl rfl rfl (Nat.le_of_ble_eq_true rfl) dX6_purseBehind_19 ?_
  refine r_istore_n (pc := 22) C [(3, .int (daysF n (σ 0) k (8 + 5 * o + 4))), (0, .ref (h 0)), (1, .int (nI o)), (2, .int (nI k))] dX6_purseBehind_22 rfl (by decide) rfl ?_
  refine r_aload_n (pc := 23) C 1 dX6_purseBehind_23 rfl rfl ?_
  refine mg_aside (pc := 24) C fl_RX6_16 dX6_purseBehind_24 ?_
  refine r_aload_n (pc := 27) C 1 dX6_purseBehind_27 rfl rfl ?_
  refine mg_s (pc := 28) C fl_RX6_7 dX6_purseBehind_28 ?_
  refine rc_Sv (pc := 31) C (t_X6_copyRow_2_0' l ad D cs h (su (su σ 0 (daysF n (σ 0) k)) 2 (σ 0)) pre post (σ 0) (su_at)  ) ms_X6_copyRow ml_RX6_134 rfl ⟨Nat.le_of_ble_eq_true rfl, Nat.le_of_ble_eq_true rfl⟩ ⟨rfl, rfl⟩ rfl rfl rfl (Nat.le_of_ble_eq_true rfl) dX6_purseBehind_31 ?_
  refine r_blk (blk' := wM cs h (su σ 2 (σ 0))) (congrArg (wM cs h) (by rw [su_cm (k := 2) (j := 0) (by decide), su_su (k := 0), su_id (k := 0) (rfl)])) ?_
  refine r_iload_n (pc := 34) C 0 dX6_purseBehind_34 rfl rfl ?_
  exact r_iret (pc := 35) C hr hlk dX6_purseBehind_35 rfl (by first | rfl | simp [bI, *]) rfl
theorem t_X6_purseBehind' (l : Launch) (ad : Nat → Nat) (D : va_G) (cs : Nat → ClassId) (h : Nat → Nat) (σ : Nat → Nat → Int32) (pre post : va_W) (f0_ : Nat → Int32) (e0_ : σ 0 = f0_) (n : Nat) (o k : Nat) (hN : f0_ 0 = nI n) (hn : n ≤ 8) (ho : o < n) (hk : k ≤ 60) : CTi l yX6_purseBehind cX6_purseBehind 4 .int ({ frames := 7, cells := 0, slots := 0, locals := 157 }) ad D (tysW cs) (pre ++ (wM cs h σ ++ post)) [.ref (h 0), .int (nI o), .int (nI k)] (purF n f0_ o k) (pre ++ (wM cs h (su σ 2 f0_) ++ post)) := by
  subst e0_
  exact t_X6_purseBehind l ad D cs h σ pre post n o k hN hn ho hk
theorem dX6_purse_0 : decode cX6_purse 0 = .ok (.aload_n 0, 1) := by decide +kernel
theorem dX6_purse_1 : decode cX6_purse 1 = .ok (.iload_n 1, 1) := by decide +kernel
theorem dX6_purse_2 : decode cX6_purse 2 = .ok (.invokevirtual 168, 3) := by decide +kernel
theorem dX6_purse_5 : decode cX6_purse 5 = .ok (.ifCond .eq 24, 3) := by decide +kernel
theorem dX6_purse_8 : decode cX6_purse 8 = .ok (.iload_n 2, 1) := by decide +kernel
theorem dX6_purse_9 : decode cX6_purse 9 = .ok (.i2l, 1) := by decide +kernel
theorem dX6_purse_10 : decode cX6_purse 10 = .ok (.lconst 0, 1) := by decide +kernel
theorem dX6_purse_11 : decode cX6_purse 11 = .ok (.ldc2_w 199, 3) := by decide +kernel
theorem dX6_purse_14 : decode cX6_purse 14 = .ok (.invokestatic 57, 3) := by decide +kernel
theorem dX6_purse_17 : decode cX6_purse 17 = .ok (.ifCond .eq 12, 3) := by decide +kernel
theorem dX6_purse_20 : decode cX6_purse 20 = .ok (.aload_n 0, 1) := by decide +kernel
theorem dX6_purse_21 : decode cX6_purse 21 = .ok (.iload_n 1, 1) := by decide +kernel
theorem dX6_purse_22 : decode cX6_purse 22 = .ok (.iload_n 2, 1) := by decide +kernel
theorem dX6_purse_23 : decode cX6_purse 23 = .ok (.invokevirtual 228, 3) := by decide +kernel
theorem dX6_purse_26 : decode cX6_purse 26 = .ok (.goto 4, 3) := by decide +kernel
theorem dX6_purse_29 : decode cX6_purse 29 = .ok (.iconst (-1), 1) := by decide +kernel
theorem dX6_purse_30 : decode cX6_purse 30 = .ok (.ireturn, 1) := by decide +kernel
set_option maxHeartbeats 400000 in
set_option maxRecDepth 20000 in
theorem t_X6_purse (l : Launch) (ad : Nat → Nat) (D : va_G) (cs : Nat → ClassId) (h : Nat → Nat) (σ : Nat → Nat → Int32) (pre post : va_W) (n : Nat) (o k : Int32) (hN : σ 0 0 = nI n) (hn : n ≤ 8) : CTi l yX6_purse cX6_purse 3 .int ({ frames := 8, cells := 0, slots := 0, locals := 180 }) ad D (tysW cs) (pre ++ (wM cs h σ ++ post)) [.ref (h 0), .int o, .int k] (gateI (oneB n o && inB k 0 60) (purF n (σ 0) o.toNatClampNeg k.toNatClampNeg) (-1)) (pre ++ (wM cs h (su σ 2 (gateF (oneB n o && inB k 0 60) (σ 0) (σ 2))) ++ post)) := by
  refine CTi.of (lv0 := [(0, .ref (h 0)), (1, .int o), (2, .int k)]) (by decide) rfl (Nat.le_of_ble_eq_true rfl) (fun p e s m args below meth c A C hr hlk => ?_)
  have C : Cx p s m args c cX6_purse 3 RX6 ad D (tysW cs) A := C
  refine r_aload_n (pc := 0) C 0 dX6_purse_0 rfl rfl ?_
  refine r_iload_n (pc := 1) C 1 dX6_purse_1 rfl rfl ?_
  refine rc_Vi (pc := 2) C (t_X6_isOne' l ad D cs h σ pre post (σ 0) (rfl) n o hN hn) mv_X6_isOne ml_RX6_168 rfl ⟨Nat.le_of_ble_eq_true rfl, Nat.le_of_ble_eq_true rfl⟩ ⟨rfl, rfl⟩ (q0 := 0) rfl rfl rfl rfl rfl rfl (Nat.le_of_ble_eq_true rfl) dX6_purse_2 ?_
  refine r_if_eq (pc := 5) C 29 dX6_purse_5 (by decide) (fun c_1 => ?_) (fun c_1 => ?_)
  · skip
    have c_1 := bI_0.mp c_1
    refine r_iconst (pc := 29) C (-1) dX6_purse_29 (by decide) ?_
    exact r_iret (pc := 30) C hr hlk dX6_purse_30 rfl (by first | rfl | (simp [gateI, gateF, *]; done) | simp_all [gateI, gateF]) (by rw [show (gateF (oneB n o && inB k 0 60) (σ 0) (σ 2) : Nat → Int32) = σ 2 from (by first | rfl | (simp [gateI, gateF, *]; done) | simp_all [gateI, gateF])]; first | rfl | done)
  · skip
    have c_1 := bI_n.mp c_1
    obtain ⟨j, h_j, rfl⟩ := one_nat (by omega) c_1
    have e_j : (nI j).toNatClampNeg = j := nI_clamp (by omega)
    refine r_iload_n (pc := 8) C 2 dX6_purse_8 rfl rfl ?_
    refine r_i2l (pc := 9) C dX6_purse_9 ?_
    refine r_lconst (pc := 10) C 0 dX6_purse_10 (by decide) ?_
    refine r_ldc2 (pc := 11) C dX6_purse_11 cn_RX6_199 ?_
    refine rc_Si (pc := 14) C (t_X6_isIn l ad D (tysW cs) (wM cs h σ) pre post  k (0 : Int32) (60 : Int32) ) ms_X6_isIn ml_RX6_57 rfl ⟨Nat.le_of_ble_eq_true rfl, Nat.le_of_ble_eq_true rfl⟩ ⟨rfl, rfl⟩ rfl rfl rfl (Nat.le_of_ble_eq_true rfl) dX6_purse_14 ?_
    refine r_if_eq (pc := 17) C 29 dX6_purse_17 (by decide) (fun c_2 => ?_) (fun c_2 => ?_)
    · skip
      have c_2 := bI_0.mp c_2
      refine r_iconst (pc := 29) C (-1) dX6_purse_29 (by decide) ?_
      exact r_iret (pc := 30) C hr hlk dX6_purse_30 rfl (by first | rfl | (simp [gateI, gateF, *]; done) | simp_all [gateI, gateF]) (by rw [show (gateF (oneB n (nI j) && inB k 0 60) (σ 0) (σ 2) : Nat → Int32) = σ 2 from (by first | rfl | (simp [gateI, gateF, *]; done) | simp_all [gateI, gateF])]; first | rfl | done)
    · skip
      have c_2 := bI_n.mp c_2
      obtain ⟨t, l_t, h_t, rfl⟩ := rng_nat 0 60 (by decide) (by decide) c_2
      have e_t : (nI t).toNatClampNeg = t := nI_clamp (by omega)
      refine r_aload_n (pc := 20) C 0 dX6_purse_20 rfl rfl ?_
      refine r_iload_n (pc := 21) C 1 dX6_purse_21 rfl rfl ?_
      refine r_iload_n (pc := 22) C 2 dX6_purse_22 rfl rfl ?_
      refine rc_Vi (pc := 23) C (t_X6_purseBehind' l ad D cs h σ pre post (σ 0) (rfl) n j t hN hn h_j (by omega)) mv_X6_purseBehind ml_RX6_228 rfl ⟨Nat.le_of_ble_eq_true rfl, Nat.le_of_ble_eq_true rfl⟩ ⟨rfl, rfl⟩ (q0 := 0) rfl rfl rfl rfl rfl rfl (Nat.le_of_ble_eq_true rfl) dX6_purse_23 ?_
      refine r_goto (pc := 26) C 30 dX6_purse_26 (by decide) ?_
      exact r_iret (pc := 30) C hr hlk dX6_purse_30 rfl (by first | rfl | (simp [gateI, gateF, *]; done) | simp_all [gateI, gateF]) (by rw [show (gateF (oneB n (nI j) && inB (nI t) 0 60) (σ 0) (σ 2) : Nat → Int32) = σ 0 from (by first | rfl | (simp [gateI, gateF, *]; done) | simp_all [gateI, gateF])]; first | rfl | done)
theorem t_X6_purse' (l : Launch) (ad : Nat → Nat) (D : va_G) (cs : Nat → ClassId) (h : Nat → Nat) (σ : Nat → Nat → Int32) (pre post : va_W) (f0_ : Nat → Int32) (e0_ : σ 0 = f0_) (f2_ : Nat → Int32) (e2_ : σ 2 = f2_) (n : Nat) (o k : Int32) (hN : f0_ 0 = nI n) (hn : n ≤ 8) : CTi l yX6_purse cX6_purse 3 .int ({ frames := 8, cells := 0, slots := 0, locals := 180 }) ad D (tysW cs) (pre ++ (wM cs h σ ++ post)) [.ref (h 0), .int o, .int k] (gateI (oneB n o && inB k 0 60) (purF n f0_ o.toNatClampNeg k.toNatClampNeg) (-1)) (pre ++ (wM cs h (su σ 2 (gateF (oneB n o && inB k 0 60) f0_ (f2_))) ++ post)) := by
  subst e0_; subst e2_
  exact t_X6_purse l ad D cs h σ pre post n o k hN hn
theorem dX6_days_0 : decode cX6_days 0 = .ok (.iload_n 1, 1) := by decide +kernel
theorem dX6_days_1 : decode cX6_days 1 = .ok (.i2l, 1) := by decide +kernel
theorem dX6_days_2 : decode cX6_days 2 = .ok (.lconst 1, 1) := by decide +kernel
theorem dX6_days_3 : decode cX6_days 3 = .ok (.ldc2_w 199, 3) := by decide +kernel
theorem dX6_days_6 : decode cX6_days 6 = .ok (.invokestatic 57, 3) := by decide +kernel
theorem dX6_days_9 : decode cX6_days 9 = .ok (.ifCond .ne 5, 3) := by decide +kernel
theorem dX6_days_12 : decode cX6_days 12 = .ok (.iconst (-1), 1) := by decide +kernel
theorem dX6_days_13 : decode cX6_days 13 = .ok (.ireturn, 1) := by decide +kernel
theorem dX6_days_14 : decode cX6_days 14 = .ok (.aload_n 0, 1) := by decide +kernel
theorem dX6_days_15 : decode cX6_days 15 = .ok (.iload_n 1, 1) := by decide +kernel
theorem dX6_days_16 : decode cX6_days 16 = .ok (.invokevirtual 201, 3) := by decide +kernel
theorem dX6_days_19 : decode cX6_days 19 = .ok (.aload_n 0, 1) := by decide +kernel
theorem dX6_days_20 : decode cX6_days 20 = .ok (.iconst 4, 1) := by decide +kernel
theorem dX6_days_21 : decode cX6_days 21 = .ok (.invokevirtual 204, 3) := by decide +kernel
theorem dX6_days_24 : decode cX6_days 24 = .ok (.ireturn, 1) := by decide +kernel
set_option maxHeartbeats 400000 in
set_option maxRecDepth 20000 in
theorem t_X6_days (l : Launch) (ad : Nat → Nat) (D : va_G) (cs : Nat → ClassId) (h : Nat → Nat) (σ : Nat → Nat → Int32) (pre post : va_W) (n : Nat) (k : Int32) (hN : σ 0 0 = nI n) (hn : n ≤ 8) : CTi l yX6_days cX6_days 2 .int ({ frames := 7, cells := 0, slots := 0, locals := 157 }) ad D (tysW cs) (pre ++ (wM cs h σ ++ post)) [.ref (h 0), .int k] (gateI (inB k 1 60) (sumF (daysF n (σ 0) k.toNatClampNeg) 4 n) (-1)) (pre ++ (wM cs h (su σ 0 (gateF (inB k 1 60) (daysF n (σ 0) k.toNatClampNeg) (σ 0))) ++ post)) := by
  refine CTi.of (lv0 := [(0, .ref (h 0)), (1, .int k)]) (by decide) rfl (Nat.le_of_ble_eq_true rfl) (fun p e s m args below meth c A C hr hlk => ?_)
  have C : Cx p s m args c cX6_days 2 RX6 ad D (tysW cs) A := C
  refine r_iload_n (pc := 0) C 1 dX6_days_0 rfl rfl ?_
  refine r_i2l (pc := 1) C dX6_days_1 ?_
  refine r_lconst (pc := 2) C 1 dX6_days_2 (by decide) ?_
  refine r_ldc2 (pc := 3) C dX6_days_3 cn_RX6_199 ?_
  refine rc_Si (pc := 6) C (t_X6_isIn l ad D (tysW cs) (wM cs h σ) pre post  k (1 : Int32) (60 : Int32) ) ms_X6_isIn ml_RX6_57 rfl ⟨Nat.le_of_ble_eq_true rfl, Nat.le_of_ble_eq_true rfl⟩ ⟨rfl, rfl⟩ rfl rfl rfl (Nat.le_of_ble_eq_true rfl) dX6_days_6 ?_
  refine r_if_ne (pc := 9) C 14 dX6_days_9 (by decide) (fun c_1 => ?_) (fun c_1 => ?_)
  · skip
    have c_1 := bI_n.mp c_1
    obtain ⟨t, l_t, h_t, rfl⟩ := rng_nat 1 60 (by decide) (by decide) c_1
    have e_t : (nI t).toNatClampNeg = t := nI_clamp (by omega)
    refine r_aload_n (pc := 14) C 0 dX6_days_14 rfl rfl ?_
    refine r_iload_n (pc := 15) C 1 dX6_days_15 rfl rfl ?_
    refine rc_Vv (pc := 16) C (t_X6_goes' l ad D cs h σ pre post (σ 0) (rfl) n t hN hn (by omega)) mv_X6_goes ml_RX6_201 rfl ⟨Nat.le_of_ble_eq_true rfl, Nat.le_of_ble_eq_true rfl⟩ ⟨rfl, rfl⟩ (q0 := 0) rfl rfl rfl rfl rfl rfl (Nat.le_of_ble_eq_true rfl) dX6_days_16 ?_
    have f_2 : daysF n (σ 0) t 0 = nI n := daysF_0 hN
    refine r_aload_n (pc := 19) C 0 dX6_days_19 rfl rfl ?_
    refine r_iconst (pc := 20) C 4 dX6_days_20 (by decide) ?_
    refine rc_Vi (pc := 21) C (t_X6_sumOf' l ad D cs h (su σ 0 (daysF n (σ 0) t)) pre post (daysF n (σ 0) t) (su_at) n 4 f_2 hn (by omega)) mv_X6_sumOf ml_RX6_204 rfl ⟨Nat.le_of_ble_eq_true rfl, Nat.le_of_ble_eq_true rfl⟩ ⟨rfl, rfl⟩ (q0 := 0) rfl rfl rfl rfl rfl rfl (Nat.le_of_ble_eq_true rfl) dX6_days_21 ?_
    exact r_iret (pc := 24) C hr hlk dX6_days_24 rfl (by first | rfl | (simp [gateI, gateF, *]; done) | simp_all [gateI, gateF]) (by rw [show (gateF (inB (nI t) 1 60) (daysF n (σ 0) (nI t).toNatClampNeg) (σ 0) : Nat → Int32) = daysF n (σ 0) t from (by first | rfl | (simp [gateI, gateF, *]; done) | simp_all [gateI, gateF])]; first | rfl | done)
  · skip
    have c_1 := bI_0.mp c_1
    refine r_iconst (pc := 12) C (-1) dX6_days_12 (by decide) ?_
    exact r_iret (pc := 13) C hr hlk dX6_days_13 rfl (by first | rfl | (simp [gateI, gateF, *]; done) | simp_all [gateI, gateF]) (by rw [show (gateF (inB k 1 60) (daysF n (σ 0) k.toNatClampNeg) (σ 0) : Nat → Int32) = σ 0 from (by first | rfl | (simp [gateI, gateF, *]; done) | simp_all [gateI, gateF])]; first | rfl | done)
theorem t_X6_days' (l : Launch) (ad : Nat → Nat) (D : va_G) (cs : Nat → ClassId) (h : Nat → Nat) (σ : Nat → Nat → Int32) (pre post : va_W) (f0_ : Nat → Int32) (e0_ : σ 0 = f0_) (n : Nat) (k : Int32) (hN : f0_ 0 = nI n) (hn : n ≤ 8) : CTi l yX6_days cX6_days 2 .int ({ frames := 7, cells := 0, slots := 0, locals := 157 }) ad D (tysW cs) (pre ++ (wM cs h σ ++ post)) [.ref (h 0), .int k] (gateI (inB k 1 60) (sumF (daysF n f0_ k.toNatClampNeg) 4 n) (-1)) (pre ++ (wM cs h (su σ 0 (gateF (inB k 1 60) (daysF n f0_ k.toNatClampNeg) f0_)) ++ post)) := by
  subst e0_
  exact t_X6_days l ad D cs h σ pre post n k hN hn
theorem dX6_seed_0 : decode cX6_seed 0 = .ok (.aload_n 0, 1) := by decide +kernel
theorem dX6_seed_1 : decode cX6_seed 1 = .ok (.iconst 2, 1) := by decide +kernel
theorem dX6_seed_2 : decode cX6_seed 2 = .ok (.iload_n 1, 1) := by decide +kernel
theorem dX6_seed_3 : decode cX6_seed 3 = .ok (.invokevirtual 150, 3) := by decide +kernel
theorem dX6_seed_6 : decode cX6_seed 6 = .ok (.ireturn, 1) := by decide +kernel
set_option maxHeartbeats 400000 in
set_option maxRecDepth 20000 in
theorem t_X6_seed (l : Launch) (ad : Nat → Nat) (D : va_G) (cs : Nat → ClassId) (h : Nat → Nat) (σ : Nat → Nat → Int32) (pre post : va_W) (v : Int32)  : CTi l yX6_seed cX6_seed 2 .int ({ frames := 1, cells := 0, slots := 0, locals := 23 }) ad D (tysW cs) (pre ++ (wM cs h σ ++ post)) [.ref (h 0), .int v] (σ 0 2) (pre ++ (wM cs h (su σ 0 (upd (σ 0) 2 v)) ++ post)) := by
  refine CTi.of (lv0 := [(0, .ref (h 0)), (1, .int v)]) (by decide) rfl (Nat.le_of_ble_eq_true rfl) (fun p e s m args below meth c A C hr hlk => ?_)
  have C : Cx p s m args c cX6_seed 2 RX6 ad D (tysW cs) A := C
  refine r_aload_n (pc := 0) C 0 dX6_seed_0 rfl rfl ?_
  refine r_iconst (pc := 1) C 2 dX6_seed_1 (by decide) ?_
  refine r_iload_n (pc := 2) C 1 dX6_seed_2 rfl rfl ?_
  refine rc_Vi (pc := 3) C (t_X6_becomes' l ad D cs h σ pre post (σ 0) (rfl) 2 v (by omega)) mv_X6_becomes ml_RX6_150 rfl ⟨Nat.le_of_ble_eq_true rfl, Nat.le_of_ble_eq_true rfl⟩ ⟨rfl, rfl⟩ (q0 := 0) rfl rfl rfl rfl rfl rfl (Nat.le_of_ble_eq_true rfl) dX6_seed_3 ?_
  exact r_iret (pc := 6) C hr hlk dX6_seed_6 rfl rfl rfl
theorem t_X6_seed' (l : Launch) (ad : Nat → Nat) (D : va_G) (cs : Nat → ClassId) (h : Nat → Nat) (σ : Nat → Nat → Int32) (pre post : va_W) (f0_ : Nat → Int32) (e0_ : σ 0 = f0_) (v : Int32)  : CTi l yX6_seed cX6_seed 2 .int ({ frames := 1, cells := 0, slots := 0, locals := 23 }) ad D (tysW cs) (pre ++ (wM cs h σ ++ post)) [.ref (h 0), .int v] (f0_ 2) (pre ++ (wM cs h (su σ 0 (upd f0_ 2 v)) ++ post)) := by
  subst e0_
  exact t_X6_seed l ad D cs h σ pre post v 
theorem dX6_drawn_0 : decode cX6_drawn 0 = .ok (.aload_n 0, 1) := by decide +kernel
theorem dX6_drawn_1 : decode cX6_drawn 1 = .ok (.getfield 7, 3) := by decide +kernel
theorem dX6_drawn_4 : decode cX6_drawn 4 = .ok (.iconst 2, 1) := by decide +kernel
theorem dX6_drawn_5 : decode cX6_drawn 5 = .ok (.aload_n 0, 1) := by decide +kernel
theorem dX6_drawn_6 : decode cX6_drawn 6 = .ok (.getfield 7, 3) := by decide +kernel
theorem dX6_drawn_9 : decode cX6_drawn 9 = .ok (.iconst 2, 1) := by decide +kernel
theorem dX6_drawn_10 : decode cX6_drawn 10 = .ok (.iaload, 1) := by decide +kernel
theorem dX6_drawn_11 : decode cX6_drawn 11 = .ok (.ldc 207, 2) := by decide +kernel
theorem dX6_drawn_13 : decode cX6_drawn 13 = .ok (.imul, 1) := by decide +kernel
theorem dX6_drawn_14 : decode cX6_drawn 14 = .ok (.sipush 12345, 3) := by decide +kernel
theorem dX6_drawn_17 : decode cX6_drawn 17 = .ok (.iadd, 1) := by decide +kernel
theorem dX6_drawn_18 : decode cX6_drawn 18 = .ok (.iastore, 1) := by decide +kernel
theorem dX6_drawn_19 : decode cX6_drawn 19 = .ok (.aload_n 0, 1) := by decide +kernel
theorem dX6_drawn_20 : decode cX6_drawn 20 = .ok (.getfield 7, 3) := by decide +kernel
theorem dX6_drawn_23 : decode cX6_drawn 23 = .ok (.iconst 2, 1) := by decide +kernel
theorem dX6_drawn_24 : decode cX6_drawn 24 = .ok (.iaload, 1) := by decide +kernel
theorem dX6_drawn_25 : decode cX6_drawn 25 = .ok (.bipush 16, 2) := by decide +kernel
theorem dX6_drawn_27 : decode cX6_drawn 27 = .ok (.iushr, 1) := by decide +kernel
theorem dX6_drawn_28 : decode cX6_drawn 28 = .ok (.ireturn, 1) := by decide +kernel
set_option maxHeartbeats 400000 in
set_option maxRecDepth 20000 in
theorem t_X6_drawn (l : Launch) (ad : Nat → Nat) (D : va_G) (cs : Nat → ClassId) (h : Nat → Nat) (σ : Nat → Nat → Int32) (pre post : va_W) (n : Nat) (hN : σ 0 0 = nI n) (hn : n ≤ 8) : CTi l yX6_drawn cX6_drawn 1 .int ({ frames := 0, cells := 0, slots := 0, locals := 0 }) ad D (tysW cs) (pre ++ (wM cs h σ ++ post)) [.ref (h 0)] (nI (drF (σ 0))) (pre ++ (wM cs h (su σ 0 (drw (σ 0))) ++ post)) := by
  refine CTi.of (lv0 := [(0, .ref (h 0))]) (by decide) rfl (Nat.le_of_ble_eq_true rfl) (fun p e s m args below meth c A C hr hlk => ?_)
  have C : Cx p s m args c cX6_drawn 1 RX6 ad D (tysW cs) A := C
  refine r_aload_n (pc := 0) C 0 dX6_drawn_0 rfl rfl ?_
  refine mg_s (pc := 1) C fl_RX6_7 dX6_drawn_1 ?_
  refine r_iconst (pc := 4) C 2 dX6_drawn_4 (by decide) ?_
  refine r_aload_n (pc := 5) C 0 dX6_drawn_5 rfl rfl ?_
  refine mg_s (pc := 6) C fl_RX6_7 dX6_drawn_6 ?_
  refine r_iconst (pc := 9) C 2 dX6_drawn_9 (by decide) ?_
  refine al_s (pc := 10) C 2 (rfl) (by omega) dX6_drawn_10 (σ 0 2) rfl ?_
  refine r_ldc (pc := 11) C dX6_drawn_11 cn_RX6_207 ?_
  refine r_imul (pc := 13) C dX6_drawn_13 ?_
  refine r_sipush (pc := 14) C 12345 dX6_drawn_14 (by decide) ?_
  refine r_iadd (pc := 17) C dX6_drawn_17 ?_
  refine as_s (pc := 18) C 2 (rfl) (by omega) dX6_drawn_18 (σ 0) (rfl) ?_
  refine r_blk (blk' := wM cs h (su σ 0 (drw (σ 0)))) (rfl) ?_
  refine r_aload_n (pc := 19) C 0 dX6_drawn_19 rfl rfl ?_
  refine mg_s (pc := 20) C fl_RX6_7 dX6_drawn_20 ?_
  refine r_iconst (pc := 23) C 2 dX6_drawn_23 (by decide) ?_
  refine al_s (pc := 24) C 2 (rfl) (by omega) dX6_drawn_24 (drw (σ 0) 2) (congrFun (su_at) _) ?_
  refine r_bipush (pc := 25) C 16 dX6_drawn_25 (by decide) ?_
  refine r_iushr (pc := 27) C dX6_drawn_27 ?_
  refine r_eqi (y := nI (drF (σ 0))) (ush16 _) ?_
  exact r_iret (pc := 28) C hr hlk dX6_drawn_28 rfl rfl rfl
theorem t_X6_drawn' (l : Launch) (ad : Nat → Nat) (D : va_G) (cs : Nat → ClassId) (h : Nat → Nat) (σ : Nat → Nat → Int32) (pre post : va_W) (f0_ : Nat → Int32) (e0_ : σ 0 = f0_) (n : Nat) (hN : f0_ 0 = nI n) (hn : n ≤ 8) : CTi l yX6_drawn cX6_drawn 1 .int ({ frames := 0, cells := 0, slots := 0, locals := 0 }) ad D (tysW cs) (pre ++ (wM cs h σ ++ post)) [.ref (h 0)] (nI (drF f0_)) (pre ++ (wM cs h (su σ 0 (drw f0_)) ++ post)) := by
  subst e0_
  exact t_X6_drawn l ad D cs h σ pre post n hN hn
theorem dX6_day_0 : decode cX6_day 0 = .ok (.aload_n 0, 1) := by decide +kernel
theorem dX6_day_1 : decode cX6_day 1 = .ok (.getfield 7, 3) := by decide +kernel
theorem dX6_day_4 : decode cX6_day 4 = .ok (.iconst 0, 1) := by decide +kernel
theorem dX6_day_5 : decode cX6_day 5 = .ok (.iaload, 1) := by decide +kernel
theorem dX6_day_6 : decode cX6_day 6 = .ok (.ifCond .le 55, 3) := by decide +kernel
theorem dX6_day_9 : decode cX6_day 9 = .ok (.bipush 8, 2) := by decide +kernel
theorem dX6_day_11 : decode cX6_day 11 = .ok (.iconst 5, 1) := by decide +kernel
theorem dX6_day_12 : decode cX6_day 12 = .ok (.aload_n 0, 1) := by decide +kernel
theorem dX6_day_13 : decode cX6_day 13 = .ok (.invokevirtual 208, 3) := by decide +kernel
theorem dX6_day_16 : decode cX6_day 16 = .ok (.aload_n 0, 1) := by decide +kernel
theorem dX6_day_17 : decode cX6_day 17 = .ok (.getfield 7, 3) := by decide +kernel
theorem dX6_day_20 : decode cX6_day 20 = .ok (.iconst 0, 1) := by decide +kernel
theorem dX6_day_21 : decode cX6_day 21 = .ok (.iaload, 1) := by decide +kernel
theorem dX6_day_22 : decode cX6_day 22 = .ok (.irem, 1) := by decide +kernel
theorem dX6_day_23 : decode cX6_day 23 = .ok (.imul, 1) := by decide +kernel
theorem dX6_day_24 : decode cX6_day 24 = .ok (.iadd, 1) := by decide +kernel
theorem dX6_day_25 : decode cX6_day 25 = .ok (.iconst 3, 1) := by decide +kernel
theorem dX6_day_26 : decode cX6_day 26 = .ok (.iadd, 1) := by decide +kernel
theorem dX6_day_27 : decode cX6_day 27 = .ok (.istore_n 1, 1) := by decide +kernel
theorem dX6_day_28 : decode cX6_day 28 = .ok (.aload_n 0, 1) := by decide +kernel
theorem dX6_day_29 : decode cX6_day 29 = .ok (.getfield 7, 3) := by decide +kernel
theorem dX6_day_32 : decode cX6_day 32 = .ok (.iload_n 1, 1) := by decide +kernel
theorem dX6_day_33 : decode cX6_day 33 = .ok (.aload_n 0, 1) := by decide +kernel
theorem dX6_day_34 : decode cX6_day 34 = .ok (.invokevirtual 208, 3) := by decide +kernel
theorem dX6_day_37 : decode cX6_day 37 = .ok (.bipush 100, 2) := by decide +kernel
theorem dX6_day_39 : decode cX6_day 39 = .ok (.irem, 1) := by decide +kernel
theorem dX6_day_40 : decode cX6_day 40 = .ok (.aload_n 0, 1) := by decide +kernel
theorem dX6_day_41 : decode cX6_day 41 = .ok (.getfield 7, 3) := by decide +kernel
theorem dX6_day_44 : decode cX6_day 44 = .ok (.bipush 7, 2) := by decide +kernel
theorem dX6_day_46 : decode cX6_day 46 = .ok (.iaload, 1) := by decide +kernel
theorem dX6_day_47 : decode cX6_day 47 = .ok (.if_icmp .ge 7, 3) := by decide +kernel
theorem dX6_day_50 : decode cX6_day 50 = .ok (.iconst 0, 1) := by decide +kernel
theorem dX6_day_51 : decode cX6_day 51 = .ok (.goto 9, 3) := by decide +kernel
theorem dX6_day_54 : decode cX6_day 54 = .ok (.aload_n 0, 1) := by decide +kernel
theorem dX6_day_55 : decode cX6_day 55 = .ok (.getfield 7, 3) := by decide +kernel
theorem dX6_day_58 : decode cX6_day 58 = .ok (.iload_n 1, 1) := by decide +kernel
theorem dX6_day_59 : decode cX6_day 59 = .ok (.iaload, 1) := by decide +kernel
theorem dX6_day_60 : decode cX6_day 60 = .ok (.iastore, 1) := by decide +kernel
theorem dX6_day_61 : decode cX6_day 61 = .ok (.aload_n 0, 1) := by decide +kernel
theorem dX6_day_62 : decode cX6_day 62 = .ok (.invokevirtual 196, 3) := by decide +kernel
theorem dX6_day_65 : decode cX6_day 65 = .ok (.aload_n 0, 1) := by decide +kernel
theorem dX6_day_66 : decode cX6_day 66 = .ok (.iconst 4, 1) := by decide +kernel
theorem dX6_day_67 : decode cX6_day 67 = .ok (.invokevirtual 204, 3) := by decide +kernel
theorem dX6_day_70 : decode cX6_day 70 = .ok (.ireturn, 1) := by decide +kernel
set_option maxHeartbeats 400000 in
set_option maxRecDepth 20000 in
theorem t_X6_day (l : Launch) (ad : Nat → Nat) (D : va_G) (cs : Nat → ClassId) (h : Nat → Nat) (σ : Nat → Nat → Int32) (pre post : va_W) (n : Nat) (hN : σ 0 0 = nI n) (hn : n ≤ 8) : CTi l yX6_day cX6_day 2 .int ({ frames := 6, cells := 0, slots := 0, locals := 135 }) ad D (tysW cs) (pre ++ (wM cs h σ ++ post)) [.ref (h 0)] (sumF (dayD n (σ 0)) 4 n) (pre ++ (wM cs h (su σ 0 (dayD n (σ 0))) ++ post)) := by
  refine CTi.of (lv0 := [(0, .ref (h 0))]) (by decide) rfl (Nat.le_of_ble_eq_true rfl) (fun p e s m args below meth c A C hr hlk => ?_)
  have C : Cx p s m args c cX6_day 2 RX6 ad D (tysW cs) A := C
  refine r_aload_n (pc := 0) C 0 dX6_day_0 rfl rfl ?_
  refine mg_s (pc := 1) C fl_RX6_7 dX6_day_1 ?_
  refine r_iconst (pc := 4) C 0 dX6_day_4 (by decide) ?_
  refine al_s (pc := 5) C 0 (rfl) (by omega) dX6_day_5 (σ 0 0) rfl ?_
  refine r_eqi (y := nI n) (hN) ?_
  refine r_if_le (pc := 6) C 61 dX6_day_6 (by decide) (fun c_1 => ?_) (fun c_1 => ?_)
  · skip
    have c_1 := nIc_le_t (a := n) (b := 0) (by omega) (by omega) c_1
    refine r_blk (blk' := wM cs h (su σ 0 (dyS n (σ 0)))) (by rw [show (dyS n (σ 0) : Nat → Int32) = σ 0 from Eq.symm (dyS_n (by omega))] <;> rfl) ?_
    refine r_aload_n (pc := 61) C 0 dX6_day_61 rfl rfl ?_
    refine rc_Vv (pc := 62) C (t_X6_goesOn' l ad D cs h (su σ 0 (dyS n (σ 0))) pre post (dyS n (σ 0)) (su_at) n (dyS_0 hN) hn) mv_X6_goesOn ml_RX6_196 rfl ⟨Nat.le_of_ble_eq_true rfl, Nat.le_of_ble_eq_true rfl⟩ ⟨rfl, rfl⟩ (q0 := 0) rfl rfl rfl rfl rfl rfl (Nat.le_of_ble_eq_true rfl) dX6_day_62 ?_
    refine r_blk (blk' := wM cs h (su σ 0 (dayF n (dyS n (σ 0))))) (congrArg (wM cs h) (by rw [su_su (k := 0)])) ?_
    have f_2 : dayF n (dyS n (σ 0)) 0 = nI n := dayF_0 (dyS_0 hN)
    refine r_aload_n (pc := 65) C 0 dX6_day_65 rfl rfl ?_
    refine r_iconst (pc := 66) C 4 dX6_day_66 (by decide) ?_
    refine rc_Vi (pc := 67) C (t_X6_sumOf' l ad D cs h (su σ 0 (dayF n (dyS n (σ 0)))) pre post (dayF n (dyS n (σ 0))) (su_at) n 4 f_2 hn (by omega)) mv_X6_sumOf ml_RX6_204 rfl ⟨Nat.le_of_ble_eq_true rfl, Nat.le_of_ble_eq_true rfl⟩ ⟨rfl, rfl⟩ (q0 := 0) rfl rfl rfl rfl rfl rfl (Nat.le_of_ble_eq_true rfl) dX6_day_67 ?_
    exact r_iret (pc := 70) C hr hlk dX6_day_70 rfl (by first | rfl | simp [bI, *]) rfl
  · skip
    have c_1 := nIc_le_f (a := n) (b := 0) (by omega) (by omega) c_1
    have hd1 := drF_lt (σ 0)
    have hd2 := drF_lt (drw (σ 0))
    have hm := Nat.mod_lt (drF (σ 0)) (show 0 < n by omega)
    have hm2 := Nat.mod_lt (drF (drw (σ 0))) (show 0 < 100 by decide)
    refine r_bipush (pc := 9) C 8 dX6_day_9 (by decide) ?_
    refine r_iconst (pc := 11) C 5 dX6_day_11 (by decide) ?_
    refine r_aload_n (pc := 12) C 0 dX6_day_12 rfl rfl ?_
    refine rc_Vi (pc := 13) C (t_X6_drawn' l ad D cs h σ pre post (σ 0) (rfl) n hN hn) mv_X6_drawn ml_RX6_208 rfl ⟨Nat.le_of_ble_eq_true rfl, Nat.le_of_ble_eq_true rfl⟩ ⟨rfl, rfl⟩ (q0 := 0) rfl rfl rfl rfl rfl rfl (Nat.le_of_ble_eq_true rfl) dX6_day_13 ?_
    have f_3 : drw (σ 0) 0 = nI n := drw_0 hN
    refine r_aload_n (pc := 16) C 0 dX6_day_16 rfl rfl ?_
    refine mg_s (pc := 17) C fl_RX6_7 dX6_day_17 ?_
    refine r_iconst (pc := 20) C 0 dX6_day_20 (by decide) ?_
    refine al_s (pc := 21) C 0 (rfl) (by omega) dX6_day_21 (drw (σ 0) 0) (congrFun (su_at) _) ?_
    refine r_eqi (y := nI n) (f_3) ?_
    refine r_irem (pc := 22) C dX6_day_22 (nI_ne0 (by omega) (by omega)) ?_
    refine r_eqi (y := nI (drF (σ 0) % n)) (pk_rem (by omega) (by omega) (by omega)) ?_
    refine r_imul (pc := 23) C dX6_day_23 ?_
    refine r_eqi (y := nI (5 * (drF (σ 0) % n))) (pk_mul 5 (drF (σ 0) % n)) ?_
    refine r_iadd (pc := 24) C dX6_day_24 ?_
    refine r_eqi (y := nI (8 + 5 * (drF (σ 0) % n))) (nI_add 8 (5 * (drF (σ 0) % n))) ?_
    refine r_iconst (pc := 25) C 3 dX6_day_25 (by decide) ?_
    refine r_iadd (pc := 26) C dX6_day_26 ?_
    refine r_eqi (y := nI (8 + 5 * (drF (σ 0) % n) + 3)) (nI_add (8 + 5 * (drF (σ 0) % n)) 3) ?_
    refine r_istore_n (pc := 27) C [(1, .int (nI (8 + 5 * (drF (σ 0) % n) + 3))), (0, .ref (h 0))] dX6_day_27 rfl (by decide) rfl ?_
    refine r_aload_n (pc := 28) C 1 dX6_day_28 rfl rfl ?_
    refine mg_s (pc := 29) C fl_RX6_7 dX6_day_29 ?_
    refine r_iload_n (pc := 32) C 0 dX6_day_32 rfl rfl ?_
    refine r_aload_n (pc := 33) C 1 dX6_day_33 rfl rfl ?_
    refine rc_Vi (pc := 34) C (t_X6_drawn' l ad D cs h (su σ 0 (drw (σ 0))) pre post (drw (σ 0)) (su_at) n f_3 hn) mv_X6_drawn ml_RX6_208 rfl ⟨Nat.le_of_ble_eq_true rfl, Nat.le_of_ble_eq_true rfl⟩ ⟨rfl, rfl⟩ (q0 := 0) rfl rfl rfl rfl rfl rfl (Nat.le_of_ble_eq_true rfl) dX6_day_34 ?_
    refine r_blk (blk' := wM cs h (su σ 0 (drw (drw (σ 0))))) (congrArg (wM cs h) (by rw [su_su (k := 0)])) ?_
    have f_4 : drw (drw (σ 0)) 0 = nI n := drw_0 f_3
    refine r_bipush (pc := 37) C 100 dX6_day_37 (by decide) ?_
    refine r_irem (pc := 39) C dX6_day_39 (by decide) ?_
    refine r_eqi (y := nI (drF (drw (σ 0)) % 100)) (pk_rem (d := 100) (by omega) (by decide) (by decide)) ?_
    refine r_aload_n (pc := 40) C 1 dX6_day_40 rfl rfl ?_
    refine mg_s (pc := 41) C fl_RX6_7 dX6_day_41 ?_
    refine r_bipush (pc := 44) C 7 dX6_day_44 (by decide) ?_
    refine al_s (pc := 46) C 7 (rfl) (by omega) dX6_day_46 (drw (drw (σ 0)) 7) (congrFun (su_at) _) ?_
    refine r_icmp_ge (pc := 47) C 54 dX6_day_47 (by decide) (fun c_5 => ?_) (fun c_5 => ?_)
    · skip
      refine r_aload_n (pc := 54) C 1 dX6_day_54 rfl rfl ?_
      refine mg_s (pc := 55) C fl_RX6_7 dX6_day_55 ?_
      refine r_iload_n (pc := 58) C 0 dX6_day_58 rfl rfl ?_
      refine al_s (pc := 59) C (8 + 5 * (drF (σ 0) % n) + 3) (rfl) (by omega) dX6_day_59 (drw (drw (σ 0)) (8 + 5 * (drF (σ 0) % n) + 3)) (congrFun (su_at) _) ?_
      refine as_s (pc := 60) C (8 + 5 * (drF (σ 0) % n) + 3) (rfl) (by omega) dX6_day_60 (drw (drw (σ 0))) (su_at) ?_
      refine r_blk (blk' := wM cs h (su σ 0 (upd (drw (drw (σ 0))) (8 + 5 * (drF (σ 0) % n) + 3) (drw (drw (σ 0)) (8 + 5 * (drF (σ 0) % n) + 3))))) (congrArg (wM cs h) (by rw [su_su])) ?_
      refine r_blk (blk' := wM cs h (su σ 0 (dyS n (σ 0)))) (by rw [show (dyS n (σ 0) : Nat → Int32) = upd (drw (drw (σ 0))) (8 + 5 * (drF (σ 0) % n) + 3) (drw (drw (σ 0)) (8 + 5 * (drF (σ 0) % n) + 3)) from Eq.symm (dyS_t (by omega) ‹_›)] <;> rfl) ?_
      refine r_aload_n (pc := 61) C 1 dX6_day_61 rfl rfl ?_
      refine rc_Vv (pc := 62) C (t_X6_goesOn' l ad D cs h (su σ 0 (dyS n (σ 0))) pre post (dyS n (σ 0)) (su_at) n (dyS_0 hN) hn) mv_X6_goesOn ml_RX6_196 rfl ⟨Nat.le_of_ble_eq_true rfl, Nat.le_of_ble_eq_true rfl⟩ ⟨rfl, rfl⟩ (q0 := 0) rfl rfl rfl rfl rfl rfl (Nat.le_of_ble_eq_true rfl) dX6_day_62 ?_
      refine r_blk (blk' := wM cs h (su σ 0 (dayF n (dyS n (σ 0))))) (congrArg (wM cs h) (by rw [su_su (k := 0)])) ?_
      have f_6 : dayF n (dyS n (σ 0)) 0 = nI n := dayF_0 (dyS_0 hN)
      refine r_aload_n (pc := 65) C 1 dX6_day_65 rfl rfl ?_
      refine r_iconst (pc := 66) C 4 dX6_day_66 (by decide) ?_
      refine rc_Vi (pc := 67) C (t_X6_sumOf' l ad D cs h (su σ 0 (dayF n (dyS n (σ 0)))) pre post (dayF n (dyS n (σ 0))) (su_at) n 4 f_6 hn (by omega)) mv_X6_sumOf ml_RX6_204 rfl ⟨Nat.le_of_ble_eq_true rfl, Nat.le_of_ble_eq_true rfl⟩ ⟨rfl, rfl⟩ (q0 := 0) rfl rfl rfl rfl rfl rfl (Nat.le_of_ble_eq_true rfl) dX6_day_67 ?_
      exact r_iret (pc := 70) C hr hlk dX6_day_70 rfl (by first | rfl | simp [bI, *]) rfl
    · skip
      refine r_iconst (pc := 50) C 0 dX6_day_50 (by decide) ?_
      refine r_goto (pc := 51) C 60 dX6_day_51 (by decide) ?_
      refine as_s (pc := 60) C (8 + 5 * (drF (σ 0) % n) + 3) (rfl) (by omega) dX6_day_60 (drw (drw (σ 0))) (su_at) ?_
      refine r_blk (blk' := wM cs h (su σ 0 (upd (drw (drw (σ 0))) (8 + 5 * (drF (σ 0) % n) + 3) 0))) (congrArg (wM cs h) (by rw [su_su])) ?_
      refine r_blk (blk' := wM cs h (su σ 0 (dyS n (σ 0)))) (by rw [show (dyS n (σ 0) : Nat → Int32) = upd (drw (drw (σ 0))) (8 + 5 * (drF (σ 0) % n) + 3) 0 from Eq.symm (dyS_f (by omega) ‹_›)] <;> rfl) ?_
      refine r_aload_n (pc := 61) C 1 dX6_day_61 rfl rfl ?_
      refine rc_Vv (pc := 62) C (t_X6_goesOn' l ad D cs h (su σ 0 (dyS n (σ 0))) pre post (dyS n (σ 0)) (su_at) n (dyS_0 hN) hn) mv_X6_goesOn ml_RX6_196 rfl ⟨Nat.le_of_ble_eq_true rfl, Nat.le_of_ble_eq_true rfl⟩ ⟨rfl, rfl⟩ (q0 := 0) rfl rfl rfl rfl rfl rfl (Nat.le_of_ble_eq_true rfl) dX6_day_62 ?_
      refine r_blk (blk' := wM cs h (su σ 0 (dayF n (dyS n (σ 0))))) (congrArg (wM cs h) (by rw [su_su (k := 0)])) ?_
      have f_7 : dayF n (dyS n (σ 0)) 0 = nI n := dayF_0 (dyS_0 hN)
      refine r_aload_n (pc := 65) C 1 dX6_day_65 rfl rfl ?_
      refine r_iconst (pc := 66) C 4 dX6_day_66 (by decide) ?_
      refine rc_Vi (pc := 67) C (t_X6_sumOf' l ad D cs h (su σ 0 (dayF n (dyS n (σ 0)))) pre post (dayF n (dyS n (σ 0))) (su_at) n 4 f_7 hn (by omega)) mv_X6_sumOf ml_RX6_204 rfl ⟨Nat.le_of_ble_eq_true rfl, Nat.le_of_ble_eq_true rfl⟩ ⟨rfl, rfl⟩ (q0 := 0) rfl rfl rfl rfl rfl rfl (Nat.le_of_ble_eq_true rfl) dX6_day_67 ?_
      exact r_iret (pc := 70) C hr hlk dX6_day_70 rfl (by first | rfl | simp [bI, *]) rfl
theorem t_X6_day' (l : Launch) (ad : Nat → Nat) (D : va_G) (cs : Nat → ClassId) (h : Nat → Nat) (σ : Nat → Nat → Int32) (pre post : va_W) (f0_ : Nat → Int32) (e0_ : σ 0 = f0_) (n : Nat) (hN : f0_ 0 = nI n) (hn : n ≤ 8) : CTi l yX6_day cX6_day 2 .int ({ frames := 6, cells := 0, slots := 0, locals := 135 }) ad D (tysW cs) (pre ++ (wM cs h σ ++ post)) [.ref (h 0)] (sumF (dayD n f0_) 4 n) (pre ++ (wM cs h (su σ 0 (dayD n f0_)) ++ post)) := by
  subst e0_
  exact t_X6_day l ad D cs h σ pre post n hN hn
theorem dX6_lucky_0 : decode cX6_lucky 0 = .ok (.aload_n 0, 1) := by decide +kernel
theorem dX6_lucky_1 : decode cX6_lucky 1 = .ok (.iload_n 1, 1) := by decide +kernel
theorem dX6_lucky_2 : decode cX6_lucky 2 = .ok (.invokevirtual 168, 3) := by decide +kernel
theorem dX6_lucky_5 : decode cX6_lucky 5 = .ok (.ifCond .eq 15, 3) := by decide +kernel
theorem dX6_lucky_8 : decode cX6_lucky 8 = .ok (.iload_n 2, 1) := by decide +kernel
theorem dX6_lucky_9 : decode cX6_lucky 9 = .ok (.i2l, 1) := by decide +kernel
theorem dX6_lucky_10 : decode cX6_lucky 10 = .ok (.lconst 1, 1) := by decide +kernel
theorem dX6_lucky_11 : decode cX6_lucky 11 = .ok (.ldc2_w 211, 3) := by decide +kernel
theorem dX6_lucky_14 : decode cX6_lucky 14 = .ok (.invokestatic 57, 3) := by decide +kernel
theorem dX6_lucky_17 : decode cX6_lucky 17 = .ok (.ifCond .ne 5, 3) := by decide +kernel
theorem dX6_lucky_20 : decode cX6_lucky 20 = .ok (.iconst (-1), 1) := by decide +kernel
theorem dX6_lucky_21 : decode cX6_lucky 21 = .ok (.ireturn, 1) := by decide +kernel
theorem dX6_lucky_22 : decode cX6_lucky 22 = .ok (.aload_n 0, 1) := by decide +kernel
theorem dX6_lucky_23 : decode cX6_lucky 23 = .ok (.getfield 7, 3) := by decide +kernel
theorem dX6_lucky_26 : decode cX6_lucky 26 = .ok (.aload_n 0, 1) := by decide +kernel
theorem dX6_lucky_27 : decode cX6_lucky 27 = .ok (.getfield 16, 3) := by decide +kernel
theorem dX6_lucky_30 : decode cX6_lucky 30 = .ok (.invokestatic 134, 3) := by decide +kernel
theorem dX6_lucky_33 : decode cX6_lucky 33 = .ok (.aload_n 0, 1) := by decide +kernel
theorem dX6_lucky_34 : decode cX6_lucky 34 = .ok (.invokevirtual 196, 3) := by decide +kernel
theorem dX6_lucky_37 : decode cX6_lucky 37 = .ok (.aload_n 0, 1) := by decide +kernel
theorem dX6_lucky_38 : decode cX6_lucky 38 = .ok (.iload_n 1, 1) := by decide +kernel
theorem dX6_lucky_39 : decode cX6_lucky 39 = .ok (.iconst 4, 1) := by decide +kernel
theorem dX6_lucky_40 : decode cX6_lucky 40 = .ok (.invokevirtual 156, 3) := by decide +kernel
theorem dX6_lucky_43 : decode cX6_lucky 43 = .ok (.istore_n 3, 1) := by decide +kernel
theorem dX6_lucky_44 : decode cX6_lucky 44 = .ok (.aload_n 0, 1) := by decide +kernel
theorem dX6_lucky_45 : decode cX6_lucky 45 = .ok (.getfield 16, 3) := by decide +kernel
theorem dX6_lucky_48 : decode cX6_lucky 48 = .ok (.iconst 2, 1) := by decide +kernel
theorem dX6_lucky_49 : decode cX6_lucky 49 = .ok (.iaload, 1) := by decide +kernel
theorem dX6_lucky_50 : decode cX6_lucky 50 = .ok (.istore 4, 2) := by decide +kernel
theorem dX6_lucky_52 : decode cX6_lucky 52 = .ok (.iconst 0, 1) := by decide +kernel
theorem dX6_lucky_53 : decode cX6_lucky 53 = .ok (.istore 5, 2) := by decide +kernel
theorem dX6_lucky_55 : decode cX6_lucky 55 = .ok (.iconst 0, 1) := by decide +kernel
theorem dX6_lucky_56 : decode cX6_lucky 56 = .ok (.istore 6, 2) := by decide +kernel
theorem dX6_lucky_58 : decode cX6_lucky 58 = .ok (.iload 6, 2) := by decide +kernel
theorem dX6_lucky_60 : decode cX6_lucky 60 = .ok (.iload_n 2, 1) := by decide +kernel
theorem dX6_lucky_61 : decode cX6_lucky 61 = .ok (.if_icmp .ge 62, 3) := by decide +kernel
theorem dX6_lucky_64 : decode cX6_lucky 64 = .ok (.aload_n 0, 1) := by decide +kernel
theorem dX6_lucky_65 : decode cX6_lucky 65 = .ok (.getfield 16, 3) := by decide +kernel
theorem dX6_lucky_68 : decode cX6_lucky 68 = .ok (.aload_n 0, 1) := by decide +kernel
theorem dX6_lucky_69 : decode cX6_lucky 69 = .ok (.getfield 7, 3) := by decide +kernel
theorem dX6_lucky_72 : decode cX6_lucky 72 = .ok (.invokestatic 134, 3) := by decide +kernel
theorem dX6_lucky_75 : decode cX6_lucky 75 = .ok (.aload_n 0, 1) := by decide +kernel
theorem dX6_lucky_76 : decode cX6_lucky 76 = .ok (.getfield 7, 3) := by decide +kernel
theorem dX6_lucky_79 : decode cX6_lucky 79 = .ok (.iconst 2, 1) := by decide +kernel
theorem dX6_lucky_80 : decode cX6_lucky 80 = .ok (.iload 4, 2) := by decide +kernel
theorem dX6_lucky_82 : decode cX6_lucky 82 = .ok (.iastore, 1) := by decide +kernel
theorem dX6_lucky_83 : decode cX6_lucky 83 = .ok (.aload_n 0, 1) := by decide +kernel
theorem dX6_lucky_84 : decode cX6_lucky 84 = .ok (.invokevirtual 213, 3) := by decide +kernel
theorem dX6_lucky_87 : decode cX6_lucky 87 = .ok (.istore 7, 2) := by decide +kernel
theorem dX6_lucky_89 : decode cX6_lucky 89 = .ok (.iload 5, 2) := by decide +kernel
theorem dX6_lucky_91 : decode cX6_lucky 91 = .ok (.aload_n 0, 1) := by decide +kernel
theorem dX6_lucky_92 : decode cX6_lucky 92 = .ok (.iload_n 1, 1) := by decide +kernel
theorem dX6_lucky_93 : decode cX6_lucky 93 = .ok (.iconst 4, 1) := by decide +kernel
theorem dX6_lucky_94 : decode cX6_lucky 94 = .ok (.invokevirtual 156, 3) := by decide +kernel
theorem dX6_lucky_97 : decode cX6_lucky 97 = .ok (.iload_n 3, 1) := by decide +kernel
theorem dX6_lucky_98 : decode cX6_lucky 98 = .ok (.if_icmp .le 7, 3) := by decide +kernel
theorem dX6_lucky_101 : decode cX6_lucky 101 = .ok (.iconst 1, 1) := by decide +kernel
theorem dX6_lucky_102 : decode cX6_lucky 102 = .ok (.goto 4, 3) := by decide +kernel
theorem dX6_lucky_105 : decode cX6_lucky 105 = .ok (.iconst 0, 1) := by decide +kernel
theorem dX6_lucky_106 : decode cX6_lucky 106 = .ok (.iadd, 1) := by decide +kernel
theorem dX6_lucky_107 : decode cX6_lucky 107 = .ok (.istore 5, 2) := by decide +kernel
theorem dX6_lucky_109 : decode cX6_lucky 109 = .ok (.aload_n 0, 1) := by decide +kernel
theorem dX6_lucky_110 : decode cX6_lucky 110 = .ok (.getfield 7, 3) := by decide +kernel
theorem dX6_lucky_113 : decode cX6_lucky 113 = .ok (.iconst 2, 1) := by decide +kernel
theorem dX6_lucky_114 : decode cX6_lucky 114 = .ok (.iaload, 1) := by decide +kernel
theorem dX6_lucky_115 : decode cX6_lucky 115 = .ok (.istore 4, 2) := by decide +kernel
theorem dX6_lucky_117 : decode cX6_lucky 117 = .ok (.iinc 6 1, 3) := by decide +kernel
theorem dX6_lucky_120 : decode cX6_lucky 120 = .ok (.goto (-62), 3) := by decide +kernel
theorem dX6_lucky_123 : decode cX6_lucky 123 = .ok (.aload_n 0, 1) := by decide +kernel
theorem dX6_lucky_124 : decode cX6_lucky 124 = .ok (.getfield 16, 3) := by decide +kernel
theorem dX6_lucky_127 : decode cX6_lucky 127 = .ok (.aload_n 0, 1) := by decide +kernel
theorem dX6_lucky_128 : decode cX6_lucky 128 = .ok (.getfield 7, 3) := by decide +kernel
theorem dX6_lucky_131 : decode cX6_lucky 131 = .ok (.invokestatic 134, 3) := by decide +kernel
theorem dX6_lucky_134 : decode cX6_lucky 134 = .ok (.iload 5, 2) := by decide +kernel
theorem dX6_lucky_136 : decode cX6_lucky 136 = .ok (.ireturn, 1) := by decide +kernel
set_option maxHeartbeats 400000 in
set_option maxRecDepth 20000 in
theorem t_X6_lucky (l : Launch) (ad : Nat → Nat) (D : va_G) (cs : Nat → ClassId) (h : Nat → Nat) (σ : Nat → Nat → Int32) (pre post : va_W) (n : Nat) (o k : Int32) (hN : σ 0 0 = nI n) (hn : n ≤ 8) : CTi l yX6_lucky cX6_lucky 8 .int ({ frames := 7, cells := 0, slots := 0, locals := 156 }) ad D (tysW cs) (pre ++ (wM cs h σ ++ post)) [.ref (h 0), .int o, .int k] (gateI (oneB n o && inB k 1 30) (lkC n (σ 0) o.toNatClampNeg (dayF n (σ 0) (8 + 5 * o.toNatClampNeg + 4)) k.toNatClampNeg) (-1)) (pre ++ (wM cs h (su σ 2 (gateF (oneB n o && inB k 1 30) (σ 0) (σ 2))) ++ post)) := by
  refine CTi.of (lv0 := [(0, .ref (h 0)), (1, .int o), (2, .int k)]) (by decide) rfl (Nat.le_of_ble_eq_true rfl) (fun p e s m args below meth c A C hr hlk => ?_)
  have C : Cx p s m args c cX6_lucky 8 RX6 ad D (tysW cs) A := C
  refine r_aload_n (pc := 0) C 0 dX6_lucky_0 rfl rfl ?_
  refine r_iload_n (pc := 1) C 1 dX6_lucky_1 rfl rfl ?_
  refine rc_Vi (pc := 2) C (t_X6_isOne' l ad D cs h σ pre post (σ 0) (rfl) n o hN hn) mv_X6_isOne ml_RX6_168 rfl ⟨Nat.le_of_ble_eq_true rfl, Nat.le_of_ble_eq_true rfl⟩ ⟨rfl, rfl⟩ (q0 := 0) rfl rfl rfl rfl rfl rfl (Nat.le_of_ble_eq_true rfl) dX6_lucky_2 ?_
  refine r_if_eq (pc := 5) C 20 dX6_lucky_5 (by decide) (fun c_1 => ?_) (fun c_1 => ?_)
  · skip
    have c_1 := bI_0.mp c_1
    refine r_iconst (pc := 20) C (-1) dX6_lucky_20 (by decide) ?_
    exact r_iret (pc := 21) C hr hlk dX6_lucky_21 rfl (by first | rfl | (simp [gateI, gateF, *]; done) | simp_all [gateI, gateF]) (by rw [show (gateF (oneB n o && inB k 1 30) (σ 0) (σ 2) : Nat → Int32) = σ 2 from (by first | rfl | (simp [gateI, gateF, *]; done) | simp_all [gateI, gateF])]; first | rfl | done)
  · skip
    have c_1 := bI_n.mp c_1
    obtain ⟨j, h_j, rfl⟩ := one_nat (by omega) c_1
    have e_j : (nI j).toNatClampNeg = j := nI_clamp (by omega)
    refine r_iload_n (pc := 8) C 2 dX6_lucky_8 rfl rfl ?_
    refine r_i2l (pc := 9) C dX6_lucky_9 ?_
    refine r_lconst (pc := 10) C 1 dX6_lucky_10 (by decide) ?_
    refine r_ldc2 (pc := 11) C dX6_lucky_11 cn_RX6_211 ?_
    refine rc_Si (pc := 14) C (t_X6_isIn l ad D (tysW cs) (wM cs h σ) pre post  k (1 : Int32) (30 : Int32) ) ms_X6_isIn ml_RX6_57 rfl ⟨Nat.le_of_ble_eq_true rfl, Nat.le_of_ble_eq_true rfl⟩ ⟨rfl, rfl⟩ rfl rfl rfl (Nat.le_of_ble_eq_true rfl) dX6_lucky_14 ?_
    refine r_if_ne (pc := 17) C 22 dX6_lucky_17 (by decide) (fun c_2 => ?_) (fun c_2 => ?_)
    · skip
      have c_2 := bI_n.mp c_2
      obtain ⟨t, l_t, h_t, rfl⟩ := rng_nat 1 30 (by decide) (by decide) c_2
      have e_t : (nI t).toNatClampNeg = t := nI_clamp (by omega)
      refine r_aload_n (pc := 22) C 0 dX6_lucky_22 rfl rfl ?_
      refine mg_s (pc := 23) C fl_RX6_7 dX6_lucky_23 ?_
      refine r_aload_n (pc := 26) C 0 dX6_lucky_26 rfl rfl ?_
      refine mg_aside (pc := 27) C fl_RX6_16 dX6_lucky_27 ?_
      refine rc_Sv (pc := 30) C (t_X6_copyRow_0_2' l ad D cs h σ pre post (σ 0) (rfl)  ) ms_X6_copyRow ml_RX6_134 rfl ⟨Nat.le_of_ble_eq_true rfl, Nat.le_of_ble_eq_true rfl⟩ ⟨rfl, rfl⟩ rfl rfl rfl (Nat.le_of_ble_eq_true rfl) dX6_lucky_30 ?_
      refine r_aload_n (pc := 33) C 0 dX6_lucky_33 rfl rfl ?_
      refine rc_Vv (pc := 34) C (t_X6_goesOn' l ad D cs h (su σ 2 (σ 0)) pre post (σ 0) ((su_nn (by decide))) n hN hn) mv_X6_goesOn ml_RX6_196 rfl ⟨Nat.le_of_ble_eq_true rfl, Nat.le_of_ble_eq_true rfl⟩ ⟨rfl, rfl⟩ (q0 := 0) rfl rfl rfl rfl rfl rfl (Nat.le_of_ble_eq_true rfl) dX6_lucky_34 ?_
      refine r_blk (blk' := wM cs h (su (su σ 0 (dayF n (σ 0))) 2 (σ 0))) (congrArg (wM cs h) (by rw [su_cm (k := 2) (j := 0) (by decide)])) ?_
      have f_3 : dayF n (σ 0) 0 = nI n := dayF_0 hN
      refine r_aload_n (pc := 37) C 0 dX6_lucky_37 rfl rfl ?_
      refine r_iload_n (pc := 38) C 1 dX6_lucky_38 rfl rfl ?_
      refine r_iconst (pc := 39) C 4 dX6_lucky_39 (by decide) ?_
      refine rc_Vi (pc := 40) C (t_X6_its' l ad D cs h (su (su σ 0 (dayF n (σ 0))) 2 (σ 0)) pre post (dayF n (σ 0)) ((su_nn (by decide)).trans su_at) j 4 (by omega) (by omega)) mv_X6_its ml_RX6_156 rfl ⟨Nat.le_of_ble_eq_true rfl, Nat.le_of_ble_eq_true rfl⟩ ⟨rfl, rfl⟩ (q0 := 0) rfl rfl rfl rfl rfl rfl (Nat.le_of_ble_eq_true rfl) dX6_lucky_40 ?_
      refine r_istore_n (pc := 43) C [(3, .int (dayF n (σ 0) (8 + 5 * j + 4))), (0, .ref (h 0)), (1, .int (nI j)), (2, .int (nI t))] dX6_lucky_43 rfl (by decide) rfl ?_
      refine r_aload_n (pc := 44) C 1 dX6_lucky_44 rfl rfl ?_
      refine mg_aside (pc := 45) C fl_RX6_16 dX6_lucky_45 ?_
      refine r_iconst (pc := 48) C 2 dX6_lucky_48 (by decide) ?_
      refine al_aside (pc := 49) C 2 (rfl) (by omega) dX6_lucky_49 (σ 0 2) (congrFun (su_at) _) ?_
      refine r_istore (pc := 50) C [(4, .int (σ 0 2)), (3, .int (dayF n (σ 0) (8 + 5 * j + 4))), (0, .ref (h 0)), (1, .int (nI j)), (2, .int (nI t))] dX6_lucky_50 (by decide) rfl ?_
      refine r_iconst (pc := 52) C 0 dX6_lucky_52 (by decide) ?_
      refine r_istore (pc := 53) C [(5, .int 0), (4, .int (σ 0 2)), (3, .int (dayF n (σ 0) (8 + 5 * j + 4))), (0, .ref (h 0)), (1, .int (nI j)), (2, .int (nI t))] dX6_lucky_53 (by decide) rfl ?_
      refine r_iconst (pc := 55) C 0 dX6_lucky_55 (by decide) ?_
      refine r_istore (pc := 56) C [(6, .int 0), (5, .int 0), (4, .int (σ 0 2)), (3, .int (dayF n (σ 0) (8 + 5 * j + 4))), (0, .ref (h 0)), (1, .int (nI j)), (2, .int (nI t))] dX6_lucky_56 (by decide) rfl ?_
      refine r_pick (lv' := [(0, .ref (h 0)), (1, .int (nI j)), (2, .int (nI t)), (3, .int (dayF n (σ 0) (8 + 5 * j + 4))), (4, .int (σ 0 2)), (5, .int 0), (6, .int 0)]) [4, 5, 6, 3, 2, 1, 0] rfl ?_
      refine r_lv (lv' := [(0, .ref (h 0)), (1, .int (nI j)), (2, .int (nI t)), (3, .int (dayF n (σ 0) (8 + 5 * j + 4))), (4, .int (lkZ n (σ 0) 0)), (5, .int (lkC n (σ 0) j (dayF n (σ 0) (8 + 5 * j + 4)) 0)), (6, .int 0)]) (rfl) ?_
      refine r_blk (blk' := wM cs h (su (su σ 0 (lkS n (σ 0) 0)) 2 (σ 0))) (rfl) ?_
      refine r_loop (blkf := fun i => wM cs h (su (su σ 0 (lkS n (σ 0) i)) 2 (σ 0))) (lvf := fun i => [(0, .ref (h 0)), (1, .int (nI j)), (2, .int (nI t)), (3, .int (dayF n (σ 0) (8 + 5 * j + 4))), (4, .int (lkZ n (σ 0) i)), (5, .int (lkC n (σ 0) j (dayF n (σ 0) (8 + 5 * j + 4)) i)), (6, .int (nI i))]) (fun i => True) t 0 (by omega) (trivial) (fun i h_i _ ih => ?_)
      show VX p l e _ s m args below meth c _ D A 8 pre (wM cs h (su (su σ 0 (lkS n (σ 0) i)) 2 (σ 0))) post 58 [(0, .ref (h 0)), (1, .int (nI j)), (2, .int (nI t)), (3, .int (dayF n (σ 0) (8 + 5 * j + 4))), (4, .int (lkZ n (σ 0) i)), (5, .int (lkC n (σ 0) j (dayF n (σ 0) (8 + 5 * j + 4)) i)), (6, .int (nI i))] []
      refine r_iload (pc := 58) C 6 dX6_lucky_58 rfl ?_
      refine r_iload_n (pc := 60) C 2 dX6_lucky_60 rfl rfl ?_
      refine r_icmp_ge (pc := 61) C 123 dX6_lucky_61 (by decide) (fun c_4 => ?_) (fun c_4 => ?_)
      · skip
        have c_4 := nIc_ge_t (a := i) (b := t) (by omega) (by omega) c_4
        obtain rfl : t = i := by omega
        refine r_aload_n (pc := 123) C 0 dX6_lucky_123 rfl rfl ?_
        refine mg_aside (pc := 124) C fl_RX6_16 dX6_lucky_124 ?_
        refine r_aload_n (pc := 127) C 0 dX6_lucky_127 rfl rfl ?_
        refine mg_s (pc := 128) C fl_RX6_7 dX6_lucky_128 ?_
        refine rc_Sv (pc := 131) C (t_X6_copyRow_2_0' l ad D cs h (su (su σ 0 (lkS n (σ 0) t)) 2 (σ 0)) pre post (σ 0) (su_at)  ) ms_X6_copyRow ml_RX6_134 rfl ⟨Nat.le_of_ble_eq_true rfl, Nat.le_of_ble_eq_true rfl⟩ ⟨rfl, rfl⟩ rfl rfl rfl (Nat.le_of_ble_eq_true rfl) dX6_lucky_131 ?_
        refine r_blk (blk' := wM cs h (su σ 2 (σ 0))) (congrArg (wM cs h) (by rw [su_cm (k := 2) (j := 0) (by decide), su_su (k := 0), su_id (k := 0) (rfl)])) ?_
        refine r_iload (pc := 134) C 5 dX6_lucky_134 rfl ?_
        exact r_iret (pc := 136) C hr hlk dX6_lucky_136 rfl (by first | rfl | (simp [gateI, gateF, *]; done) | simp_all [gateI, gateF]) (by rw [show (gateF (oneB n (nI j) && inB (nI t) 1 30) (σ 0) (σ 2) : Nat → Int32) = σ 0 from (by first | rfl | (simp [gateI, gateF, *]; done) | simp_all [gateI, gateF])]; first | rfl | done)
      · skip
        have c_4 := nIc_ge_f (a := i) (b := t) (by omega) (by omega) c_4
        refine r_aload_n (pc := 64) C 0 dX6_lucky_64 rfl rfl ?_
        refine mg_aside (pc := 65) C fl_RX6_16 dX6_lucky_65 ?_
        refine r_aload_n (pc := 68) C 0 dX6_lucky_68 rfl rfl ?_
        refine mg_s (pc := 69) C fl_RX6_7 dX6_lucky_69 ?_
        refine rc_Sv (pc := 72) C (t_X6_copyRow_2_0' l ad D cs h (su (su σ 0 (lkS n (σ 0) i)) 2 (σ 0)) pre post (σ 0) (su_at)  ) ms_X6_copyRow ml_RX6_134 rfl ⟨Nat.le_of_ble_eq_true rfl, Nat.le_of_ble_eq_true rfl⟩ ⟨rfl, rfl⟩ rfl rfl rfl (Nat.le_of_ble_eq_true rfl) dX6_lucky_72 ?_
        refine r_blk (blk' := wM cs h (su σ 2 (σ 0))) (congrArg (wM cs h) (by rw [su_cm (k := 2) (j := 0) (by decide), su_su (k := 0), su_id (k := 0) (rfl)])) ?_
        refine r_aload_n (pc := 75) C 0 dX6_lucky_75 rfl rfl ?_
        refine mg_s (pc := 76) C fl_RX6_7 dX6_lucky_76 ?_
        refine r_iconst (pc := 79) C 2 dX6_lucky_79 (by decide) ?_
        refine r_iload (pc := 80) C 4 dX6_lucky_80 rfl ?_
        refine as_s (pc := 82) C 2 (rfl) (by omega) dX6_lucky_82 (σ 0) ((su_nn (by decide))) ?_
        refine r_blk (blk' := wM cs h (su (su σ 0 (upd (σ 0) 2 (lkZ n (σ 0) i))) 2 (σ 0))) (congrArg (wM cs h) (by rw [su_cm (k := 2) (j := 0) (by decide)])) ?_
        refine r_aload_n (pc := 83) C 0 dX6_lucky_83 rfl rfl ?_
        refine rc_Vi (pc := 84) C (t_X6_day' l ad D cs h (su (su σ 0 (upd (σ 0) 2 (lkZ n (σ 0) i))) 2 (σ 0)) pre post (upd (σ 0) 2 (lkZ n (σ 0) i)) ((su_nn (by decide)).trans su_at) n (upd_0 (by omega) hN) hn) mv_X6_day ml_RX6_213 rfl ⟨Nat.le_of_ble_eq_true rfl, Nat.le_of_ble_eq_true rfl⟩ ⟨rfl, rfl⟩ (q0 := 0) rfl rfl rfl rfl rfl rfl (Nat.le_of_ble_eq_true rfl) dX6_lucky_84 ?_
        refine r_blk (blk' := wM cs h (su (su σ 0 (dayD n (upd (σ 0) 2 (lkZ n (σ 0) i)))) 2 (σ 0))) (congrArg (wM cs h) (by rw [su_cm (k := 2) (j := 0) (by decide), su_su (k := 0)])) ?_
        have f_5 : dayD n (upd (σ 0) 2 (lkZ n (σ 0) i)) 0 = nI n := dayD_0 (upd_0 (by omega) hN)
        refine r_istore (pc := 87) C [(7, .int (sumF (dayD n (upd (σ 0) 2 (lkZ n (σ 0) i))) 4 n)), (0, .ref (h 0)), (1, .int (nI j)), (2, .int (nI t)), (3, .int (dayF n (σ 0) (8 + 5 * j + 4))), (4, .int (lkZ n (σ 0) i)), (5, .int (lkC n (σ 0) j (dayF n (σ 0) (8 + 5 * j + 4)) i)), (6, .int (nI i))] dX6_lucky_87 (by decide) rfl ?_
        refine r_iload (pc := 89) C 6 dX6_lucky_89 rfl ?_
        refine r_aload_n (pc := 91) C 1 dX6_lucky_91 rfl rfl ?_
        refine r_iload_n (pc := 92) C 2 dX6_lucky_92 rfl rfl ?_
        refine r_iconst (pc := 93) C 4 dX6_lucky_93 (by decide) ?_
        refine rc_Vi (pc := 94) C (t_X6_its' l ad D cs h (su (su σ 0 (dayD n (upd (σ 0) 2 (lkZ n (σ 0) i)))) 2 (σ 0)) pre post (dayD n (upd (σ 0) 2 (lkZ n (σ 0) i))) ((su_nn (by decide)).trans su_at) j 4 (by omega) (by omega)) mv_X6_its ml_RX6_156 rfl ⟨Nat.le_of_ble_eq_true rfl, Nat.le_of_ble_eq_true rfl⟩ ⟨rfl, rfl⟩ (q0 := 0) rfl rfl rfl rfl rfl rfl (Nat.le_of_ble_eq_true rfl) dX6_lucky_94 ?_
        refine r_iload_n (pc := 97) C 4 dX6_lucky_97 rfl rfl ?_
        refine r_icmp_le (pc := 98) C 105 dX6_lucky_98 (by decide) (fun c_6 => ?_) (fun c_6 => ?_)
        · skip
          refine r_iconst (pc := 105) C 0 dX6_lucky_105 (by decide) ?_
          refine r_iadd (pc := 106) C dX6_lucky_106 ?_
          refine r_istore (pc := 107) C [(5, .int ((lkC n (σ 0) j (dayF n (σ 0) (8 + 5 * j + 4)) i) + 0)), (7, .int (sumF (dayD n (upd (σ 0) 2 (lkZ n (σ 0) i))) 4 n)), (0, .ref (h 0)), (1, .int (nI j)), (2, .int (nI t)), (3, .int (dayF n (σ 0) (8 + 5 * j + 4))), (4, .int (lkZ n (σ 0) i)), (6, .int (nI i))] dX6_lucky_107 (by decide) rfl ?_
          refine r_aload_n (pc := 109) C 2 dX6_lucky_109 rfl rfl ?_
          refine mg_s (pc := 110) C fl_RX6_7 dX6_lucky_110 ?_
          refine r_iconst (pc := 113) C 2 dX6_lucky_113 (by decide) ?_
          refine al_s (pc := 114) C 2 (rfl) (by omega) dX6_lucky_114 (dayD n (upd (σ 0) 2 (lkZ n (σ 0) i)) 2) (congrFun ((su_nn (by decide)).trans su_at) _) ?_
          refine r_istore (pc := 115) C [(4, .int (dayD n (upd (σ 0) 2 (lkZ n (σ 0) i)) 2)), (5, .int ((lkC n (σ 0) j (dayF n (σ 0) (8 + 5 * j + 4)) i) + 0)), (7, .int (sumF (dayD n (upd (σ 0) 2 (lkZ n (σ 0) i))) 4 n)), (0, .ref (h 0)), (1, .int (nI j)), (2, .int (nI t)), (3, .int (dayF n (σ 0) (8 + 5 * j + 4))), (6, .int (nI i))] dX6_lucky_115 (by decide) rfl ?_
          refine r_iinc (pc := 117) C (nI (i + 1)) 7 [(6, .int (nI (i + 1))), (4, .int (dayD n (upd (σ 0) 2 (lkZ n (σ 0) i)) 2)), (5, .int ((lkC n (σ 0) j (dayF n (σ 0) (8 + 5 * j + 4)) i) + 0)), (7, .int (sumF (dayD n (upd (σ 0) 2 (lkZ n (σ 0) i))) 4 n)), (0, .ref (h 0)), (1, .int (nI j)), (2, .int (nI t)), (3, .int (dayF n (σ 0) (8 + 5 * j + 4)))] dX6_lucky_117 rfl (nI_1 _) (by decide) rfl ?_
          refine r_goto (pc := 120) C 58 dX6_lucky_120 (by decide) ?_
          refine r_pick (lv' := [(0, .ref (h 0)), (1, .int (nI j)), (2, .int (nI t)), (3, .int (dayF n (σ 0) (8 + 5 * j + 4))), (4, .int (dayD n (upd (σ 0) 2 (lkZ n (σ 0) i)) 2)), (5, .int ((lkC n (σ 0) j (dayF n (σ 0) (8 + 5 * j + 4)) i) + 0)), (6, .int (nI (i + 1)))]) [4, 5, 6, 7, 1, 2, 0] rfl ?_
          refine r_lv (lv' := [(0, .ref (h 0)), (1, .int (nI j)), (2, .int (nI t)), (3, .int (dayF n (σ 0) (8 + 5 * j + 4))), (4, .int (lkZ n (σ 0) (i + 1))), (5, .int (lkC n (σ 0) j (dayF n (σ 0) (8 + 5 * j + 4)) (i + 1))), (6, .int (nI (i + 1)))]) (lvc rfl (lvc rfl (lvc rfl (lvc rfl (lvc rfl (lvc (congrArg Value.int (show ((lkC n (σ 0) j (dayF n (σ 0) (8 + 5 * j + 4)) i) + 0 : Int32) = lkC n (σ 0) j (dayF n (σ 0) (8 + 5 * j + 4)) (i + 1) from (by simp [lkC, *]))) (lvc rfl rfl))))))) ?_
          refine r_blk (blk' := wM cs h (su (su σ 0 (lkS n (σ 0) (i + 1))) 2 (σ 0))) (rfl) ?_
          exact ih (by omega) (trivial)
        · skip
          refine r_iconst (pc := 101) C 1 dX6_lucky_101 (by decide) ?_
          refine r_goto (pc := 102) C 106 dX6_lucky_102 (by decide) ?_
          refine r_iadd (pc := 106) C dX6_lucky_106 ?_
          refine r_istore (pc := 107) C [(5, .int ((lkC n (σ 0) j (dayF n (σ 0) (8 + 5 * j + 4)) i) + 1)), (7, .int (sumF (dayD n (upd (σ 0) 2 (lkZ n (σ 0) i))) 4 n)), (0, .ref (h 0)), (1, .int (nI j)), (2, .int (nI t)), (3, .int (dayF n (σ 0) (8 + 5 * j + 4))), (4, .int (lkZ n (σ 0) i)), (6, .int (nI i))] dX6_lucky_107 (by decide) rfl ?_
          refine r_aload_n (pc := 109) C 2 dX6_lucky_109 rfl rfl ?_
          refine mg_s (pc := 110) C fl_RX6_7 dX6_lucky_110 ?_
          refine r_iconst (pc := 113) C 2 dX6_lucky_113 (by decide) ?_
          refine al_s (pc := 114) C 2 (rfl) (by omega) dX6_lucky_114 (dayD n (upd (σ 0) 2 (lkZ n (σ 0) i)) 2) (congrFun ((su_nn (by decide)).trans su_at) _) ?_
          refine r_istore (pc := 115) C [(4, .int (dayD n (upd (σ 0) 2 (lkZ n (σ 0) i)) 2)), (5, .int ((lkC n (σ 0) j (dayF n (σ 0) (8 + 5 * j + 4)) i) + 1)), (7, .int (sumF (dayD n (upd (σ 0) 2 (lkZ n (σ 0) i))) 4 n)), (0, .ref (h 0)), (1, .int (nI j)), (2, .int (nI t)), (3, .int (dayF n (σ 0) (8 + 5 * j + 4))), (6, .int (nI i))] dX6_lucky_115 (by decide) rfl ?_
          refine r_iinc (pc := 117) C (nI (i + 1)) 7 [(6, .int (nI (i + 1))), (4, .int (dayD n (upd (σ 0) 2 (lkZ n (σ 0) i)) 2)), (5, .int ((lkC n (σ 0) j (dayF n (σ 0) (8 + 5 * j + 4)) i) + 1)), (7, .int (sumF (dayD n (upd (σ 0) 2 (lkZ n (σ 0) i))) 4 n)), (0, .ref (h 0)), (1, .int (nI j)), (2, .int (nI t)), (3, .int (dayF n (σ 0) (8 + 5 * j + 4)))] dX6_lucky_117 rfl (nI_1 _) (by decide) rfl ?_
          refine r_goto (pc := 120) C 58 dX6_lucky_120 (by decide) ?_
          refine r_pick (lv' := [(0, .ref (h 0)), (1, .int (nI j)), (2, .int (nI t)), (3, .int (dayF n (σ 0) (8 + 5 * j + 4))), (4, .int (dayD n (upd (σ 0) 2 (lkZ n (σ 0) i)) 2)), (5, .int ((lkC n (σ 0) j (dayF n (σ 0) (8 + 5 * j + 4)) i) + 1)), (6, .int (nI (i + 1)))]) [4, 5, 6, 7, 1, 2, 0] rfl ?_
          refine r_lv (lv' := [(0, .ref (h 0)), (1, .int (nI j)), (2, .int (nI t)), (3, .int (dayF n (σ 0) (8 + 5 * j + 4))), (4, .int (lkZ n (σ 0) (i + 1))), (5, .int (lkC n (σ 0) j (dayF n (σ 0) (8 + 5 * j + 4)) (i + 1))), (6, .int (nI (i + 1)))]) (lvc rfl (lvc rfl (lvc rfl (lvc rfl (lvc rfl (lvc (congrArg Value.int (show ((lkC n (σ 0) j (dayF n (σ 0) (8 + 5 * j + 4)) i) + 1 : Int32) = lkC n (σ 0) j (dayF n (σ 0) (8 + 5 * j + 4)) (i + 1) from (by simp [lkC, *]))) (lvc rfl rfl))))))) ?_
          refine r_blk (blk' := wM cs h (su (su σ 0 (lkS n (σ 0) (i + 1))) 2 (σ 0))) (rfl) ?_
          exact ih (by omega) (trivial)
    · skip
      have c_2 := bI_0.mp c_2
      refine r_iconst (pc := 20) C (-1) dX6_lucky_20 (by decide) ?_
      exact r_iret (pc := 21) C hr hlk dX6_lucky_21 rfl (by first | rfl | (simp [gateI, gateF, *]; done) | simp_all [gateI, gateF]) (by rw [show (gateF (oneB n (nI j) && inB k 1 30) (σ 0) (σ 2) : Nat → Int32) = σ 2 from (by first | rfl | (simp [gateI, gateF, *]; done) | simp_all [gateI, gateF])]; first | rfl | done)
theorem t_X6_lucky' (l : Launch) (ad : Nat → Nat) (D : va_G) (cs : Nat → ClassId) (h : Nat → Nat) (σ : Nat → Nat → Int32) (pre post : va_W) (f0_ : Nat → Int32) (e0_ : σ 0 = f0_) (f2_ : Nat → Int32) (e2_ : σ 2 = f2_) (n : Nat) (o k : Int32) (hN : f0_ 0 = nI n) (hn : n ≤ 8) : CTi l yX6_lucky cX6_lucky 8 .int ({ frames := 7, cells := 0, slots := 0, locals := 156 }) ad D (tysW cs) (pre ++ (wM cs h σ ++ post)) [.ref (h 0), .int o, .int k] (gateI (oneB n o && inB k 1 30) (lkC n f0_ o.toNatClampNeg (dayF n f0_ (8 + 5 * o.toNatClampNeg + 4)) k.toNatClampNeg) (-1)) (pre ++ (wM cs h (su σ 2 (gateF (oneB n o && inB k 1 30) f0_ (f2_))) ++ post)) := by
  subst e0_; subst e2_
  exact t_X6_lucky l ad D cs h σ pre post n o k hN hn
