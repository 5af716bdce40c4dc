theorem dX0_becomeAsAtFirst_0 : decode cX0_becomeAsAtFirst 0 = .ok (.getstatic 9, 3) := by decide +kernel
theorem dX0_becomeAsAtFirst_3 : decode cX0_becomeAsAtFirst 3 = .ok (.iconst 0, 1) := by decide +kernel
theorem dX0_becomeAsAtFirst_4 : decode cX0_becomeAsAtFirst 4 = .ok (.aload_n 0, 1) := by decide +kernel
theorem dX0_becomeAsAtFirst_5 : decode cX0_becomeAsAtFirst 5 = .ok (.getfield 18, 3) := by decide +kernel
theorem dX0_becomeAsAtFirst_8 : decode cX0_becomeAsAtFirst 8 = .ok (.iconst 0, 1) := by decide +kernel
theorem dX0_becomeAsAtFirst_9 : decode cX0_becomeAsAtFirst 9 = .ok (.iconst 4, 1) := by decide +kernel
theorem dX0_becomeAsAtFirst_10 : decode cX0_becomeAsAtFirst 10 = .ok (.invokestatic 32, 3) := by decide +kernel
theorem dX0_becomeAsAtFirst_13 : decode cX0_becomeAsAtFirst 13 = .ok (.aload_n 0, 1) := by decide +kernel
theorem dX0_becomeAsAtFirst_14 : decode cX0_becomeAsAtFirst 14 = .ok (.iconst 0, 1) := by decide +kernel
theorem dX0_becomeAsAtFirst_15 : decode cX0_becomeAsAtFirst 15 = .ok (.putfield 38, 3) := by decide +kernel
theorem dX0_becomeAsAtFirst_18 : decode cX0_becomeAsAtFirst 18 = .ok (.aload_n 0, 1) := by decide +kernel
theorem dX0_becomeAsAtFirst_19 : decode cX0_becomeAsAtFirst 19 = .ok (.iconst 0, 1) := by decide +kernel
theorem dX0_becomeAsAtFirst_20 : decode cX0_becomeAsAtFirst 20 = .ok (.putfield 41, 3) := by decide +kernel
theorem dX0_becomeAsAtFirst_23 : decode cX0_becomeAsAtFirst 23 = .ok (.aload_n 0, 1) := by decide +kernel
theorem dX0_becomeAsAtFirst_24 : decode cX0_becomeAsAtFirst 24 = .ok (.iconst 0, 1) := by decide +kernel
theorem dX0_becomeAsAtFirst_25 : decode cX0_becomeAsAtFirst 25 = .ok (.putfield 44, 3) := by decide +kernel
theorem dX0_becomeAsAtFirst_28 : decode cX0_becomeAsAtFirst 28 = .ok (.return_, 1) := by decide +kernel
set_option maxHeartbeats 400000 in
set_option maxRecDepth 20000 in
theorem t_X0_becomeAsAtFirst (l : Launch) (ad : Nat → Nat) (D : va_G) (cs : Nat → ClassId) (g : Nat → Nat) (σ : Nat → Nat → Int32) (pre post : va_W)   : CTv l yX0_becomeAsAtFirst cX0_becomeAsAtFirst 1 ({ frames := 1, cells := 0, slots := 0, locals := 49 }) ad D (tysW cs) (pre ++ (wK cs g (σ 0) ++ post)) [.ref (g 0)] (pre ++ (wK cs g (bfF (σ 0)) ++ post)) := by
  refine CTv.of (lv0 := [(0, .ref (g 0))]) (by decide) rfl (Nat.le_of_ble_eq_true rfl) (fun p e s m args below meth c A C hr hlk => ?_)
  have C : Cx p s m args c cX0_becomeAsAtFirst 1 RX0 ad D (tysW cs) A := C
  refine r_getsN (pc := 0) C (C_nw C).2.2.2.2.2.2.2.2.1 (C_t0 C).1 dX0_becomeAsAtFirst_0 ?_
  refine r_iconst (pc := 3) C 0 dX0_becomeAsAtFirst_3 (by decide) ?_
  refine r_aload_n (pc := 4) C 0 dX0_becomeAsAtFirst_4 rfl rfl ?_
  refine kg_laws (pc := 5) C fl_RX0_18 dX0_becomeAsAtFirst_5 ?_
  refine r_iconst (pc := 8) C 0 dX0_becomeAsAtFirst_8 (by decide) ?_
  refine r_iconst (pc := 9) C 4 dX0_becomeAsAtFirst_9 (by decide) ?_
  refine kt_laws (pc := 10) C ml_RX0_32' (Nat.le_of_ble_eq_true rfl) (Nat.le_of_ble_eq_true rfl) (Nat.le_of_ble_eq_true rfl) dX0_becomeAsAtFirst_10 ?_
  refine r_aload_n (pc := 13) C 0 dX0_becomeAsAtFirst_13 rfl rfl ?_
  refine r_iconst (pc := 14) C 0 dX0_becomeAsAtFirst_14 (by decide) ?_
  refine kp_count (pc := 15) C fl_RX0_38 dX0_becomeAsAtFirst_15 ?_
  refine r_aload_n (pc := 18) C 0 dX0_becomeAsAtFirst_18 rfl rfl ?_
  refine r_iconst (pc := 19) C 0 dX0_becomeAsAtFirst_19 (by decide) ?_
  refine kp_dayNumber (pc := 20) C fl_RX0_41 dX0_becomeAsAtFirst_20 ?_
  refine r_aload_n (pc := 23) C 0 dX0_becomeAsAtFirst_23 rfl rfl ?_
  refine r_iconst (pc := 24) C 0 dX0_becomeAsAtFirst_24 (by decide) ?_
  refine kp_chest (pc := 25) C fl_RX0_44 dX0_becomeAsAtFirst_25 ?_
  exact r_vret (pc := 28) C hr hlk dX0_becomeAsAtFirst_28 rfl
theorem t_X0_becomeAsAtFirst' (l : Launch) (ad : Nat → Nat) (D : va_G) (cs : Nat → ClassId) (g : Nat → Nat) (σ : Nat → Nat → Int32) (pre post : va_W) (f0_ : Nat → Int32) (e0_ : σ 0 = f0_)   : CTv l yX0_becomeAsAtFirst cX0_becomeAsAtFirst 1 ({ frames := 1, cells := 0, slots := 0, locals := 49 }) ad D (tysW cs) (pre ++ (wK cs g f0_ ++ post)) [.ref (g 0)] (pre ++ (wK cs g (bfF f0_) ++ post)) := by
  subst e0_
  exact t_X0_becomeAsAtFirst l ad D cs g σ pre post  
theorem dX3_takeBytes_0 : decode cX3_takeBytes 0 = .ok (.iconst 0, 1) := by decide +kernel
theorem dX3_takeBytes_1 : decode cX3_takeBytes 1 = .ok (.istore 4, 2) := by decide +kernel
theorem dX3_takeBytes_3 : decode cX3_takeBytes 3 = .ok (.iload 4, 2) := by decide +kernel
theorem dX3_takeBytes_5 : decode cX3_takeBytes 5 = .ok (.iload_n 3, 1) := by decide +kernel
theorem dX3_takeBytes_6 : decode cX3_takeBytes 6 = .ok (.if_icmp .ge 30, 3) := by decide +kernel
theorem dX3_takeBytes_9 : decode cX3_takeBytes 9 = .ok (.aload_n 0, 1) := by decide +kernel
theorem dX3_takeBytes_10 : decode cX3_takeBytes 10 = .ok (.getfield 18, 3) := by decide +kernel
theorem dX3_takeBytes_13 : decode cX3_takeBytes 13 = .ok (.aload_n 0, 1) := by decide +kernel
theorem dX3_takeBytes_14 : decode cX3_takeBytes 14 = .ok (.getfield 22, 3) := by decide +kernel
theorem dX3_takeBytes_17 : decode cX3_takeBytes 17 = .ok (.iload 4, 2) := by decide +kernel
theorem dX3_takeBytes_19 : decode cX3_takeBytes 19 = .ok (.iadd, 1) := by decide +kernel
theorem dX3_takeBytes_20 : decode cX3_takeBytes 20 = .ok (.lload_n 1, 1) := by decide +kernel
theorem dX3_takeBytes_21 : decode cX3_takeBytes 21 = .ok (.bipush 8, 2) := by decide +kernel
theorem dX3_takeBytes_23 : decode cX3_takeBytes 23 = .ok (.iload 4, 2) := by decide +kernel
theorem dX3_takeBytes_25 : decode cX3_takeBytes 25 = .ok (.imul, 1) := by decide +kernel
theorem dX3_takeBytes_26 : decode cX3_takeBytes 26 = .ok (.lushr, 1) := by decide +kernel
theorem dX3_takeBytes_27 : decode cX3_takeBytes 27 = .ok (.l2i, 1) := by decide +kernel
theorem dX3_takeBytes_28 : decode cX3_takeBytes 28 = .ok (.i2b, 1) := by decide +kernel
theorem dX3_takeBytes_29 : decode cX3_takeBytes 29 = .ok (.bastore, 1) := by decide +kernel
theorem dX3_takeBytes_30 : decode cX3_takeBytes 30 = .ok (.iinc 4 1, 3) := by decide +kernel
theorem dX3_takeBytes_33 : decode cX3_takeBytes 33 = .ok (.goto (-30), 3) := by decide +kernel
theorem dX3_takeBytes_36 : decode cX3_takeBytes 36 = .ok (.aload_n 0, 1) := by decide +kernel
theorem dX3_takeBytes_37 : decode cX3_takeBytes 37 = .ok (.dup, 1) := by decide +kernel
theorem dX3_takeBytes_38 : decode cX3_takeBytes 38 = .ok (.getfield 22, 3) := by decide +kernel
theorem dX3_takeBytes_41 : decode cX3_takeBytes 41 = .ok (.iload_n 3, 1) := by decide +kernel
theorem dX3_takeBytes_42 : decode cX3_takeBytes 42 = .ok (.iadd, 1) := by decide +kernel
theorem dX3_takeBytes_43 : decode cX3_takeBytes 43 = .ok (.putfield 22, 3) := by decide +kernel
theorem dX3_takeBytes_46 : decode cX3_takeBytes 46 = .ok (.return_, 1) := by decide +kernel
set_option maxHeartbeats 400000 in
set_option maxRecDepth 20000 in
theorem t_X3_takeBytes (l : Launch) (ad : Nat → Nat) (D : va_G) (cs : Nat → ClassId) (h : Nat → Nat) (σ : Nat → Nat → Int32) (pre post : va_W) (t : Nat) (ev : Int64) (u : Nat) (hT : σ 6 0 = nI t) (hu : t + u ≤ 200) (hu8 : u ≤ 8) : CTv l yX3_takeBytes cX3_takeBytes 5 ({ frames := 0, cells := 0, slots := 0, locals := 0 }) ad D (tysW cs) (pre ++ (wX cs h σ ++ post)) [.ref (h 33), .long ev, .int (nI u)] (pre ++ (wX cs h (su (su σ 5 (fdN (σ 5) ev t u)) 6 (fun _ => nI (t + u))) ++ post)) := by
  refine CTv.of (lv0 := [(0, .ref (h 33)), (1, .long ev), (3, .int (nI u))]) (by decide) rfl (Nat.le_of_ble_eq_true rfl) (fun p e s m args below meth c A C hr hlk => ?_)
  have C : Cx p s m args c cX3_takeBytes 5 RX3 ad D (tysW cs) A := C
  refine r_iconst (pc := 0) C 0 dX3_takeBytes_0 (by decide) ?_
  refine r_istore (pc := 1) C [(4, .int 0), (0, .ref (h 33)), (1, .long ev), (3, .int (nI u))] dX3_takeBytes_1 (by decide) rfl ?_
  refine r_pick (lv' := [(0, .ref (h 33)), (1, .long ev), (3, .int (nI u)), (4, .int 0)]) [1, 2, 3, 0] rfl ?_
  refine r_blk (blk' := wX cs h (su σ 5 (fdN (σ 5) ev t 0))) (rfl) ?_
  refine r_loop (blkf := fun i => wX cs h (su σ 5 (fdN (σ 5) ev t i))) (lvf := fun i => [(0, .ref (h 33)), (1, .long ev), (3, .int (nI u)), (4, .int (nI i))]) (fun i => True) u 0 (by omega) (trivial) (fun i h_i _ ih_3 => ?_)
  show VX p l e _ s m args below meth c _ D A 5 pre (wX cs h (su σ 5 (fdN (σ 5) ev t i))) post 3 [(0, .ref (h 33)), (1, .long ev), (3, .int (nI u)), (4, .int (nI i))] []
  refine r_iload (pc := 3) C 3 dX3_takeBytes_3 rfl ?_
  refine r_iload_n (pc := 5) C 2 dX3_takeBytes_5 rfl rfl ?_
  refine r_icmp_ge (pc := 6) C 36 dX3_takeBytes_6 (by decide) (fun c_1 => ?_) (fun c_1 => ?_)
  · skip
    have c_1 := nIc_ge_t (a := i) (b := u) (by omega) (by omega) c_1
    obtain rfl : u = i := by omega
    refine r_aload_n (pc := 36) C 0 dX3_takeBytes_36 rfl rfl ?_
    refine r_dup (pc := 37) C dX3_takeBytes_37 rfl ?_
    refine xg_t_size (pc := 38) C fl_RX3_22 dX3_takeBytes_38 (σ 6 0) (congrFun ((su_nn (by decide))) 0) ?_
    refine r_eqi (y := nI t) (hT) ?_
    refine r_iload_n (pc := 41) C 2 dX3_takeBytes_41 rfl rfl ?_
    refine r_iadd (pc := 42) C dX3_takeBytes_42 ?_
    refine r_eqi (y := nI (t + u)) (nI_add t u) ?_
    refine xp_t_size (pc := 43) C fl_RX3_22 dX3_takeBytes_43 ?_
    exact r_vret (pc := 46) C hr hlk dX3_takeBytes_46 rfl
  · skip
    have c_1 := nIc_ge_f (a := i) (b := u) (by omega) (by omega) c_1
    refine r_aload_n (pc := 9) C 0 dX3_takeBytes_9 rfl rfl ?_
    refine xg_t_text (pc := 10) C fl_RX3_18 dX3_takeBytes_10 ?_
    refine r_aload_n (pc := 13) C 0 dX3_takeBytes_13 rfl rfl ?_
    refine xg_t_size (pc := 14) C fl_RX3_22 dX3_takeBytes_14 (σ 6 0) (congrFun ((su_nn (by decide))) 0) ?_
    refine r_eqi (y := nI t) (hT) ?_
    refine r_iload (pc := 17) C 3 dX3_takeBytes_17 rfl ?_
    refine r_iadd (pc := 19) C dX3_takeBytes_19 ?_
    refine r_eqi (y := nI (t + i)) (nI_add t i) ?_
    refine r_lload_n (pc := 20) C 1 dX3_takeBytes_20 rfl rfl ?_
    refine r_bipush (pc := 21) C 8 dX3_takeBytes_21 (by decide) ?_
    refine r_iload (pc := 23) C 3 dX3_takeBytes_23 rfl ?_
    refine r_imul (pc := 25) C dX3_takeBytes_25 ?_
    refine r_eqi (y := nI (8 * i)) (pk_mul 8 i) ?_
    refine r_lushr (pc := 26) C dX3_takeBytes_26 ?_
    refine r_l2i (pc := 27) C dX3_takeBytes_27 ?_
    refine r_i2b (pc := 28) C dX3_takeBytes_28 ?_
    refine xs_text (pc := 29) C (t + i) (rfl) (by omega) dX3_takeBytes_29 (fdN (σ 5) ev t i) (su_at) ?_
    refine r_blk (blk' := wX cs h (su σ 5 (upd (fdN (σ 5) ev t i) (t + i) ((((ev.toUInt64 >>> ((nI (8 * i)).toInt64.toUInt64 &&& Int64.toUInt64 63)).toInt64).toInt32).toInt8.toInt32)))) (congrArg (wX cs h) (by rw [su_su])) ?_
    refine r_blk (blk' := wX cs h (su σ 5 (fdN (σ 5) ev t (i + 1)))) (wX_txt (bytR_u (by_8 ev i (by omega)))) ?_
    refine r_iinc (pc := 30) C (nI (i + 1)) 3 [(4, .int (nI (i + 1))), (0, .ref (h 33)), (1, .long ev), (3, .int (nI u))] dX3_takeBytes_30 rfl (nI_1 _) (by decide) rfl ?_
    refine r_goto (pc := 33) C 3 dX3_takeBytes_33 (by decide) ?_
    refine r_pick (lv' := [(0, .ref (h 33)), (1, .long ev), (3, .int (nI u)), (4, .int (nI (i + 1)))]) [1, 2, 3, 0] rfl ?_
    exact ih_3 (by omega) (trivial)
theorem t_X3_takeBytes' (l : Launch) (ad : Nat → Nat) (D : va_G) (cs : Nat → ClassId) (h : Nat → Nat) (σ : Nat → Nat → Int32) (pre post : va_W) (f5_ : Nat → Int32) (e5_ : σ 5 = f5_) (f6_ : Nat → Int32) (e6_ : σ 6 = f6_) (t : Nat) (ev : Int64) (u : Nat) (hT : f6_ 0 = nI t) (hu : t + u ≤ 200) (hu8 : u ≤ 8) : CTv l yX3_takeBytes cX3_takeBytes 5 ({ frames := 0, cells := 0, slots := 0, locals := 0 }) ad D (tysW cs) (pre ++ (wX cs h σ ++ post)) [.ref (h 33), .long ev, .int (nI u)] (pre ++ (wX cs h (su (su σ 5 (fdN (f5_) ev t u)) 6 (fun _ => nI (t + u))) ++ post)) := by
  subst e5_; subst e6_
  exact t_X3_takeBytes l ad D cs h σ pre post t ev u hT hu hu8
theorem dX3_readTrait_0 : decode cX3_readTrait 0 = .ok (.aload_n 0, 1) := by decide +kernel
theorem dX3_readTrait_1 : decode cX3_readTrait 1 = .ok (.aload_n 3, 1) := by decide +kernel
theorem dX3_readTrait_2 : decode cX3_readTrait 2 = .ok (.invokevirtual 95, 3) := by decide +kernel
theorem dX3_readTrait_5 : decode cX3_readTrait 5 = .ok (.ifCond .ne 5, 3) := by decide +kernel
theorem dX3_readTrait_8 : decode cX3_readTrait 8 = .ok (.iconst 1, 1) := by decide +kernel
theorem dX3_readTrait_9 : decode cX3_readTrait 9 = .ok (.ireturn, 1) := by decide +kernel
theorem dX3_readTrait_10 : decode cX3_readTrait 10 = .ok (.aload_n 0, 1) := by decide +kernel
theorem dX3_readTrait_11 : decode cX3_readTrait 11 = .ok (.invokevirtual 32, 3) := by decide +kernel
theorem dX3_readTrait_14 : decode cX3_readTrait 14 = .ok (.aload_n 0, 1) := by decide +kernel
theorem dX3_readTrait_15 : decode cX3_readTrait 15 = .ok (.iload 4, 2) := by decide +kernel
theorem dX3_readTrait_17 : decode cX3_readTrait 17 = .ok (.invokevirtual 67, 3) := by decide +kernel
theorem dX3_readTrait_20 : decode cX3_readTrait 20 = .ok (.ifCond .ne 5, 3) := by decide +kernel
theorem dX3_readTrait_23 : decode cX3_readTrait 23 = .ok (.iconst 0, 1) := by decide +kernel
theorem dX3_readTrait_24 : decode cX3_readTrait 24 = .ok (.ireturn, 1) := by decide +kernel
theorem dX3_readTrait_25 : decode cX3_readTrait 25 = .ok (.aload_n 0, 1) := by decide +kernel
theorem dX3_readTrait_26 : decode cX3_readTrait 26 = .ok (.getfield 12, 3) := by decide +kernel
theorem dX3_readTrait_29 : decode cX3_readTrait 29 = .ok (.getfield 99, 3) := by decide +kernel
theorem dX3_readTrait_32 : decode cX3_readTrait 32 = .ok (.iload_n 2, 1) := by decide +kernel
theorem dX3_readTrait_33 : decode cX3_readTrait 33 = .ok (.aaload, 1) := by decide +kernel
theorem dX3_readTrait_34 : decode cX3_readTrait 34 = .ok (.iload_n 1, 1) := by decide +kernel
theorem dX3_readTrait_35 : decode cX3_readTrait 35 = .ok (.aload_n 0, 1) := by decide +kernel
theorem dX3_readTrait_36 : decode cX3_readTrait 36 = .ok (.invokevirtual 73, 3) := by decide +kernel
theorem dX3_readTrait_39 : decode cX3_readTrait 39 = .ok (.iastore, 1) := by decide +kernel
theorem dX3_readTrait_40 : decode cX3_readTrait 40 = .ok (.aload_n 0, 1) := by decide +kernel
theorem dX3_readTrait_41 : decode cX3_readTrait 41 = .ok (.invokevirtual 32, 3) := by decide +kernel
theorem dX3_readTrait_44 : decode cX3_readTrait 44 = .ok (.iconst 1, 1) := by decide +kernel
theorem dX3_readTrait_45 : decode cX3_readTrait 45 = .ok (.ireturn, 1) := by decide +kernel
set_option maxHeartbeats 400000 in
set_option maxRecDepth 20000 in
theorem t_X3_readTrait (l : Launch) (ad : Nat → Nat) (D : va_G) (cs : Nat → ClassId) (h : Nat → Nat) (σ : Nat → Nat → Int32) (pre post : va_W) (t : Nat) (o w q : Nat) (v : Int32) (S : PS) (hT : σ 6 0 = nI t) (ht : t ≤ 200) (hb : ∀ j : Nat, j < t → 0 ≤ (σ 5 j).toInt ∧ (σ 5 j).toInt ≤ 255) (hi : S.2.1 ≤ t) (hw : S.1 = false) (h3 : σ 3 = S.2.2) (h7 : σ 7 0 = nI (tkK (σ 5) t S.2.1)) (h8 : σ 8 0 = nI (tkF (σ 5) t S.2.1)) (h9 : σ 9 0 = nI (tkT (σ 5) t S.2.1)) (ho : o < 8) (hw5 : w < 5) (hq : q < 14) : CTi l yX3_readTrait cX3_readTrait 5 .boolean ({ frames := 6, cells := 0, slots := 0, locals := 128 }) ad D (tysW cs) (pre ++ (wX cs h σ ++ post)) [.ref (h 33), .int (nI o), .int (nI w), .ref (ad (10 + q)), .int v] (bI ((phS (σ 5) t (nameB (σ 5) t S.2.1 q) (8 + 5 * o + w) v S).1 = false)) (pre ++ (wX cs h (su (su (su (su σ 3 ((phS (σ 5) t (nameB (σ 5) t S.2.1 q) (8 + 5 * o + w) v S).2.2)) 7 (fun _ => nI (tkK (σ 5) t (phS (σ 5) t (nameB (σ 5) t S.2.1 q) (8 + 5 * o + w) v S).2.1))) 8 (fun _ => nI (tkF (σ 5) t (phS (σ 5) t (nameB (σ 5) t S.2.1 q) (8 + 5 * o + w) v S).2.1))) 9 (fun _ => nI (tkT (σ 5) t (phS (σ 5) t (nameB (σ 5) t S.2.1 q) (8 + 5 * o + w) v S).2.1))) ++ post)) := by
  refine CTi.of (lv0 := [(0, .ref (h 33)), (1, .int (nI o)), (2, .int (nI w)), (3, .ref (ad (10 + q))), (4, .int v)]) (by decide) rfl (Nat.le_of_ble_eq_true rfl) (fun p e s m args below meth c A C hr hlk => ?_)
  have C : Cx p s m args c cX3_readTrait 5 RX3 ad D (tysW cs) A := C
  have hk_ := tkK_le (σ 5) t S.2.1
  have hf_ := tkF_le (T := σ 5) hi
  have ht_ := tkT_le (T := σ 5) hi
  refine r_blk (blk' := wX cs h (su (su (su (su σ 3 S.2.2) 7 (fun _ => nI (tkK (σ 5) t S.2.1))) 8 (fun _ => nI (tkF (σ 5) t S.2.1))) 9 (fun _ => nI (tkT (σ 5) t S.2.1)))) (by rw [← h3, ← h7, ← h8, ← h9] <;> rfl) ?_
  refine r_aload_n (pc := 0) C 0 dX3_readTrait_0 rfl rfl ?_
  refine r_aload_n (pc := 1) C 3 dX3_readTrait_1 rfl rfl ?_
  refine rc_Vi (pc := 2) C (t_X3_isName' l ad D cs h (su (su (su (su σ 3 S.2.2) 7 (fun _ => nI (tkK (σ 5) t S.2.1))) 8 (fun _ => nI (tkF (σ 5) t S.2.1))) 9 (fun _ => nI (tkT (σ 5) t S.2.1))) pre post (σ 5) (((((su_nn (by decide)).trans (su_nn (by decide))).trans (su_nn (by decide))).trans (su_nn (by decide)))) (σ 6) (((((su_nn (by decide)).trans (su_nn (by decide))).trans (su_nn (by decide))).trans (su_nn (by decide)))) (fun _ => nI (tkK (σ 5) t S.2.1)) (((su_nn (by decide)).trans (su_nn (by decide))).trans su_at) (fun _ => nI (tkF (σ 5) t S.2.1)) ((su_nn (by decide)).trans su_at) (fun _ => nI (tkT (σ 5) t S.2.1)) (su_at) t S.2.1 q hT ht hb hi rfl rfl rfl hq) mv_X3_isName ml_RX3_95 rfl ⟨Nat.le_of_ble_eq_true rfl, Nat.le_of_ble_eq_true rfl⟩ ⟨rfl, rfl⟩ (q0 := 33) rfl rfl rfl rfl rfl rfl (Nat.le_of_ble_eq_true rfl) dX3_readTrait_2 ?_
  refine r_if_ne (pc := 5) C 10 dX3_readTrait_5 (by decide) (fun c_1 => ?_) (fun c_1 => ?_)
  · skip
    have c_1 := bI_n.mp c_1
    have hnm := c_1
    refine r_aload_n (pc := 10) C 0 dX3_readTrait_10 rfl rfl ?_
    refine rc_Vv (pc := 11) C (t_X3_readWord' l ad D cs h (su (su (su (su σ 3 S.2.2) 7 (fun _ => nI (tkK (σ 5) t S.2.1))) 8 (fun _ => nI (tkF (σ 5) t S.2.1))) 9 (fun _ => nI (tkT (σ 5) t S.2.1))) pre post (σ 5) (((((su_nn (by decide)).trans (su_nn (by decide))).trans (su_nn (by decide))).trans (su_nn (by decide)))) (σ 6) (((((su_nn (by decide)).trans (su_nn (by decide))).trans (su_nn (by decide))).trans (su_nn (by decide)))) (fun _ => nI (tkT (σ 5) t S.2.1)) (su_at) t (tkT (σ 5) t S.2.1) hT ht hb rfl (tkT_le hi).2) mv_X3_readWord ml_RX3_32 rfl ⟨Nat.le_of_ble_eq_true rfl, Nat.le_of_ble_eq_true rfl⟩ ⟨rfl, rfl⟩ (q0 := 33) rfl rfl rfl rfl rfl rfl (Nat.le_of_ble_eq_true rfl) dX3_readTrait_11 ?_
    refine r_blk (blk' := wX cs h (su (su (su (su σ 3 S.2.2) 7 (fun _ => nI (tkK (σ 5) t (tkT (σ 5) t S.2.1)))) 8 (fun _ => nI (tkF (σ 5) t (tkT (σ 5) t S.2.1)))) 9 (fun _ => nI (tkT (σ 5) t (tkT (σ 5) t S.2.1))))) (congrArg (wX cs h) (by rw [su_cm (k := 9) (j := 7) (by decide), su_cm (k := 8) (j := 7) (by decide), su_su (k := 7), su_cm (k := 9) (j := 8) (by decide), su_su (k := 8), su_su (k := 9)])) ?_
    refine r_blk (blk' := wX cs h (su (su (su (su σ 3 ((nxS (σ 5) t S).2.2)) 7 (fun _ => nI (tkK (σ 5) t (nxS (σ 5) t S).2.1))) 8 (fun _ => nI (tkF (σ 5) t (nxS (σ 5) t S).2.1))) 9 (fun _ => nI (tkT (σ 5) t (nxS (σ 5) t S).2.1)))) rfl ?_
    have le_2 : (nxS (σ 5) t S).2.1 ≤ t := nxS_le hi
    refine r_aload_n (pc := 14) C 0 dX3_readTrait_14 rfl rfl ?_
    refine r_iload (pc := 15) C 4 dX3_readTrait_15 rfl ?_
    refine rc_Vi (pc := 17) C (t_X3_isNumberTo' l ad D cs h (su (su (su (su σ 3 ((nxS (σ 5) t S).2.2)) 7 (fun _ => nI (tkK (σ 5) t (nxS (σ 5) t S).2.1))) 8 (fun _ => nI (tkF (σ 5) t (nxS (σ 5) t S).2.1))) 9 (fun _ => nI (tkT (σ 5) t (nxS (σ 5) t S).2.1))) pre post (σ 5) (((((su_nn (by decide)).trans (su_nn (by decide))).trans (su_nn (by decide))).trans (su_nn (by decide)))) (σ 6) (((((su_nn (by decide)).trans (su_nn (by decide))).trans (su_nn (by decide))).trans (su_nn (by decide)))) (fun _ => nI (tkK (σ 5) t (nxS (σ 5) t S).2.1)) (((su_nn (by decide)).trans (su_nn (by decide))).trans su_at) (fun _ => nI (tkF (σ 5) t (nxS (σ 5) t S).2.1)) ((su_nn (by decide)).trans su_at) (fun _ => nI (tkT (σ 5) t (nxS (σ 5) t S).2.1)) (su_at) t (nxS (σ 5) t S).2.1 v hT ht hb le_2 rfl rfl rfl) mv_X3_isNumberTo ml_RX3_67 rfl ⟨Nat.le_of_ble_eq_true rfl, Nat.le_of_ble_eq_true rfl⟩ ⟨rfl, rfl⟩ (q0 := 33) rfl rfl rfl rfl rfl rfl (Nat.le_of_ble_eq_true rfl) dX3_readTrait_17 ?_
    refine r_if_ne (pc := 20) C 25 dX3_readTrait_20 (by decide) (fun c_3 => ?_) (fun c_3 => ?_)
    · skip
      have c_3 := bI_n.mp c_3
      have hph : (phS (σ 5) t (nameB (σ 5) t S.2.1 q) (8 + 5 * o + w) v S) = _ := ph_t hw hnm c_3
      have hrz : (phS (σ 5) t (nameB (σ 5) t S.2.1 q) (8 + 5 * o + w) v S).1 = false := by rw [hph]
      obtain ⟨hN2, hN3⟩ := nb_of c_3
      refine r_aload_n (pc := 25) C 0 dX3_readTrait_25 rfl rfl ?_
      refine xg_t_told (pc := 26) C fl_RX3_12 dX3_readTrait_26 ?_
      refine xg_has_3 (pc := 29) C fl_RX3_99 dX3_readTrait_29 ?_
      refine r_iload_n (pc := 32) C 2 dX3_readTrait_32 rfl rfl ?_
      refine xa_has_3 (pc := 33) C w (rfl) (by omega) dX3_readTrait_33 ?_
      refine r_iload_n (pc := 34) C 1 dX3_readTrait_34 rfl rfl ?_
      refine r_aload_n (pc := 35) C 0 dX3_readTrait_35 rfl rfl ?_
      refine rc_Vi (pc := 36) C (t_X3_numberRead' l ad D cs h (su (su (su (su σ 3 ((nxS (σ 5) t S).2.2)) 7 (fun _ => nI (tkK (σ 5) t (nxS (σ 5) t S).2.1))) 8 (fun _ => nI (tkF (σ 5) t (nxS (σ 5) t S).2.1))) 9 (fun _ => nI (tkT (σ 5) t (nxS (σ 5) t S).2.1))) pre post (σ 5) (((((su_nn (by decide)).trans (su_nn (by decide))).trans (su_nn (by decide))).trans (su_nn (by decide)))) (σ 6) (((((su_nn (by decide)).trans (su_nn (by decide))).trans (su_nn (by decide))).trans (su_nn (by decide)))) (fun _ => nI (tkK (σ 5) t (nxS (σ 5) t S).2.1)) (((su_nn (by decide)).trans (su_nn (by decide))).trans su_at) (fun _ => nI (tkF (σ 5) t (nxS (σ 5) t S).2.1)) ((su_nn (by decide)).trans su_at) (fun _ => nI (tkT (σ 5) t (nxS (σ 5) t S).2.1)) (su_at) t (nxS (σ 5) t S).2.1 hT ht hb le_2 rfl rfl rfl hN2 hN3) mv_X3_numberRead ml_RX3_73 rfl ⟨Nat.le_of_ble_eq_true rfl, Nat.le_of_ble_eq_true rfl⟩ ⟨rfl, rfl⟩ (q0 := 33) rfl rfl rfl rfl rfl rfl (Nat.le_of_ble_eq_true rfl) dX3_readTrait_36 ?_
      refine xs_row_3 (pc := 39) C w (by omega) o (rfl) (by omega) dX3_readTrait_39 (8 + 5 * o + w) rfl ((nxS (σ 5) t S).2.2) ((((su_nn (by decide)).trans (su_nn (by decide))).trans (su_nn (by decide))).trans su_at) ?_
      refine r_blk (blk' := wX cs h (su (su (su (su σ 3 (upd ((nxS (σ 5) t S).2.2) (8 + 5 * o + w) (tkV (σ 5) t (nxS (σ 5) t S).2.1))) 7 (fun _ => nI (tkK (σ 5) t (nxS (σ 5) t S).2.1))) 8 (fun _ => nI (tkF (σ 5) t (nxS (σ 5) t S).2.1))) 9 (fun _ => nI (tkT (σ 5) t (nxS (σ 5) t S).2.1)))) (congrArg (wX cs h) (by rw [su_cm (k := 9) (j := 3) (by decide), su_cm (k := 8) (j := 3) (by decide), su_cm (k := 7) (j := 3) (by decide), su_su])) ?_
      refine r_aload_n (pc := 40) C 0 dX3_readTrait_40 rfl rfl ?_
      refine rc_Vv (pc := 41) C (t_X3_readWord' l ad D cs h (su (su (su (su σ 3 (upd ((nxS (σ 5) t S).2.2) (8 + 5 * o + w) (tkV (σ 5) t (nxS (σ 5) t S).2.1))) 7 (fun _ => nI (tkK (σ 5) t (nxS (σ 5) t S).2.1))) 8 (fun _ => nI (tkF (σ 5) t (nxS (σ 5) t S).2.1))) 9 (fun _ => nI (tkT (σ 5) t (nxS (σ 5) t S).2.1))) pre post (σ 5) (((((su_nn (by decide)).trans (su_nn (by decide))).trans (su_nn (by decide))).trans (su_nn (by decide)))) (σ 6) (((((su_nn (by decide)).trans (su_nn (by decide))).trans (su_nn (by decide))).trans (su_nn (by decide)))) (fun _ => nI (tkT (σ 5) t (nxS (σ 5) t S).2.1)) (su_at) t (tkT (σ 5) t (nxS (σ 5) t S).2.1) hT ht hb rfl (tkT_le le_2).2) mv_X3_readWord ml_RX3_32 rfl ⟨Nat.le_of_ble_eq_true rfl, Nat.le_of_ble_eq_true rfl⟩ ⟨rfl, rfl⟩ (q0 := 33) rfl rfl rfl rfl rfl rfl (Nat.le_of_ble_eq_true rfl) dX3_readTrait_41 ?_
      refine r_blk (blk' := wX cs h (su (su (su (su σ 3 (upd ((nxS (σ 5) t S).2.2) (8 + 5 * o + w) (tkV (σ 5) t (nxS (σ 5) t S).2.1))) 7 (fun _ => nI (tkK (σ 5) t (tkT (σ 5) t (nxS (σ 5) t S).2.1)))) 8 (fun _ => nI (tkF (σ 5) t (tkT (σ 5) t (nxS (σ 5) t S).2.1)))) 9 (fun _ => nI (tkT (σ 5) t (tkT (σ 5) t (nxS (σ 5) t S).2.1))))) (congrArg (wX cs h) (by rw [su_cm (k := 9) (j := 7) (by decide), su_cm (k := 8) (j := 7) (by decide), su_su (k := 7), su_cm (k := 9) (j := 8) (by decide), su_su (k := 8), su_su (k := 9)])) ?_
      refine r_blk (blk' := wX cs h (su (su (su (su σ 3 ((false, tkT (σ 5) t (nxS (σ 5) t S).2.1, upd (nxS (σ 5) t S).2.2 (8 + 5 * o + w) (tkV (σ 5) t (nxS (σ 5) t S).2.1)).2.2)) 7 (fun _ => nI (tkK (σ 5) t (false, tkT (σ 5) t (nxS (σ 5) t S).2.1, upd (nxS (σ 5) t S).2.2 (8 + 5 * o + w) (tkV (σ 5) t (nxS (σ 5) t S).2.1)).2.1))) 8 (fun _ => nI (tkF (σ 5) t (false, tkT (σ 5) t (nxS (σ 5) t S).2.1, upd (nxS (σ 5) t S).2.2 (8 + 5 * o + w) (tkV (σ 5) t (nxS (σ 5) t S).2.1)).2.1))) 9 (fun _ => nI (tkT (σ 5) t (false, tkT (σ 5) t (nxS (σ 5) t S).2.1, upd (nxS (σ 5) t S).2.2 (8 + 5 * o + w) (tkV (σ 5) t (nxS (σ 5) t S).2.1)).2.1)))) rfl ?_
      refine r_iconst (pc := 44) C 1 dX3_readTrait_44 (by decide) ?_
      exact r_iret (pc := 45) C hr hlk dX3_readTrait_45 rfl (bI_t hrz) (by rw [hph] <;> rfl)
    · skip
      have c_3 := bI_0.mp c_3
      have hph : (phS (σ 5) t (nameB (σ 5) t S.2.1 q) (8 + 5 * o + w) v S) = (true, (nxS (σ 5) t S).2) := ph_f hw hnm (Bool.not_eq_true _ ▸ c_3)
      have hrz : ¬ (phS (σ 5) t (nameB (σ 5) t S.2.1 q) (8 + 5 * o + w) v S).1 = false := by rw [hph]; simp
      refine r_iconst (pc := 23) C 0 dX3_readTrait_23 (by decide) ?_
      exact r_iret (pc := 24) C hr hlk dX3_readTrait_24 rfl (bI_f hrz) (by rw [hph] <;> rfl)
  · skip
    have c_1 := bI_0.mp c_1
    have hph : (phS (σ 5) t (nameB (σ 5) t S.2.1 q) (8 + 5 * o + w) v S) = S := ph_0 hw (Bool.not_eq_true _ ▸ c_1)
    have hrz : (phS (σ 5) t (nameB (σ 5) t S.2.1 q) (8 + 5 * o + w) v S).1 = false := by rw [hph]; exact hw
    refine r_iconst (pc := 8) C 1 dX3_readTrait_8 (by decide) ?_
    exact r_iret (pc := 9) C hr hlk dX3_readTrait_9 rfl (bI_t hrz) (by rw [hph] <;> rfl)
theorem t_X3_readTrait' (l : Launch) (ad : Nat → Nat) (D : va_G) (cs : Nat → ClassId) (h : Nat → Nat) (σ : Nat → Nat → Int32) (pre post : va_W) (f3_ : Nat → Int32) (e3_ : σ 3 = f3_) (f5_ : Nat → Int32) (e5_ : σ 5 = f5_) (f6_ : Nat → Int32) (e6_ : σ 6 = f6_) (f7_ : Nat → Int32) (e7_ : σ 7 = f7_) (f8_ : Nat → Int32) (e8_ : σ 8 = f8_) (f9_ : Nat → Int32) (e9_ : σ 9 = f9_) (t : Nat) (o w q : Nat) (v : Int32) (S : PS) (hT : f6_ 0 = nI t) (ht : t ≤ 200) (hb : ∀ j : Nat, j < t → 0 ≤ (f5_ j).toInt ∧ (f5_ j).toInt ≤ 255) (hi : S.2.1 ≤ t) (hw : S.1 = false) (h3 : f3_ = S.2.2) (h7 : f7_ 0 = nI (tkK (f5_) t S.2.1)) (h8 : f8_ 0 = nI (tkF (f5_) t S.2.1)) (h9 : f9_ 0 = nI (tkT (f5_) t S.2.1)) (ho : o < 8) (hw5 : w < 5) (hq : q < 14) : CTi l yX3_readTrait cX3_readTrait 5 .boolean ({ frames := 6, cells := 0, slots := 0, locals := 128 }) ad D (tysW cs) (pre ++ (wX cs h σ ++ post)) [.ref (h 33), .int (nI o), .int (nI w), .ref (ad (10 + q)), .int v] (bI ((phS (f5_) t (nameB (f5_) t S.2.1 q) (8 + 5 * o + w) v S).1 = false)) (pre ++ (wX cs h (su (su (su (su σ 3 ((phS (f5_) t (nameB (f5_) t S.2.1 q) (8 + 5 * o + w) v S).2.2)) 7 (fun _ => nI (tkK (f5_) t (phS (f5_) t (nameB (f5_) t S.2.1 q) (8 + 5 * o + w) v S).2.1))) 8 (fun _ => nI (tkF (f5_) t (phS (f5_) t (nameB (f5_) t S.2.1 q) (8 + 5 * o + w) v S).2.1))) 9 (fun _ => nI (tkT (f5_) t (phS (f5_) t (nameB (f5_) t S.2.1 q) (8 + 5 * o + w) v S).2.1))) ++ post)) := by
  subst e3_; subst e5_; subst e6_; subst e7_; subst e8_; subst e9_
  exact t_X3_readTrait l ad D cs h σ pre post t o w q v S hT ht hb hi hw h3 h7 h8 h9 ho hw5 hq
theorem dX3_readLaw_0 : decode cX3_readLaw 0 = .ok (.aload_n 0, 1) := by decide +kernel
theorem dX3_readLaw_1 : decode cX3_readLaw 1 = .ok (.invokevirtual 32, 3) := by decide +kernel
theorem dX3_readLaw_4 : decode cX3_readLaw 4 = .ok (.aload_n 0, 1) := by decide +kernel
theorem dX3_readLaw_5 : decode cX3_readLaw 5 = .ok (.getstatic 63, 3) := by decide +kernel
theorem dX3_readLaw_8 : decode cX3_readLaw 8 = .ok (.iload_n 1, 1) := by decide +kernel
theorem dX3_readLaw_9 : decode cX3_readLaw 9 = .ok (.iaload, 1) := by decide +kernel
theorem dX3_readLaw_10 : decode cX3_readLaw 10 = .ok (.invokevirtual 67, 3) := by decide +kernel
theorem dX3_readLaw_13 : decode cX3_readLaw 13 = .ok (.ifCond .ne 5, 3) := by decide +kernel
theorem dX3_readLaw_16 : decode cX3_readLaw 16 = .ok (.iconst 0, 1) := by decide +kernel
theorem dX3_readLaw_17 : decode cX3_readLaw 17 = .ok (.ireturn, 1) := by decide +kernel
theorem dX3_readLaw_18 : decode cX3_readLaw 18 = .ok (.aload_n 0, 1) := by decide +kernel
theorem dX3_readLaw_19 : decode cX3_readLaw 19 = .ok (.getfield 12, 3) := by decide +kernel
theorem dX3_readLaw_22 : decode cX3_readLaw 22 = .ok (.getfield 70, 3) := by decide +kernel
theorem dX3_readLaw_25 : decode cX3_readLaw 25 = .ok (.iload_n 1, 1) := by decide +kernel
theorem dX3_readLaw_26 : decode cX3_readLaw 26 = .ok (.aload_n 0, 1) := by decide +kernel
theorem dX3_readLaw_27 : decode cX3_readLaw 27 = .ok (.invokevirtual 73, 3) := by decide +kernel
theorem dX3_readLaw_30 : decode cX3_readLaw 30 = .ok (.iastore, 1) := by decide +kernel
theorem dX3_readLaw_31 : decode cX3_readLaw 31 = .ok (.aload_n 0, 1) := by decide +kernel
theorem dX3_readLaw_32 : decode cX3_readLaw 32 = .ok (.invokevirtual 32, 3) := by decide +kernel
theorem dX3_readLaw_35 : decode cX3_readLaw 35 = .ok (.iconst 1, 1) := by decide +kernel
theorem dX3_readLaw_36 : decode cX3_readLaw 36 = .ok (.ireturn, 1) := by decide +kernel
set_option maxHeartbeats 400000 in
set_option maxRecDepth 20000 in
theorem t_X3_readLaw (l : Launch) (ad : Nat → Nat) (D : va_G) (cs : Nat → ClassId) (h : Nat → Nat) (σ : Nat → Nat → Int32) (pre post : va_W) (t : Nat) (a : Nat) (S : PS) (hT : σ 6 0 = nI t) (ht : t ≤ 200) (hb : ∀ j : Nat, j < t → 0 ≤ (σ 5 j).toInt ∧ (σ 5 j).toInt ≤ 255) (hi : S.2.1 ≤ t) (hw : S.1 = false) (h3 : σ 3 = S.2.2) (h7 : σ 7 0 = nI (tkK (σ 5) t S.2.1)) (h8 : σ 8 0 = nI (tkF (σ 5) t S.2.1)) (h9 : σ 9 0 = nI (tkT (σ 5) t S.2.1)) (ha : a < 4) : CTi l yX3_readLaw cX3_readLaw 2 .boolean ({ frames := 2, cells := 0, slots := 0, locals := 43 }) ad D (tysW cs) (pre ++ (wX cs h σ ++ post)) [.ref (h 33), .int (nI a)] (bI ((ntS (σ 5) t (4 + a) (tbl1.getD a 0) (nxS (σ 5) t S)).1 = false)) (pre ++ (wX cs h (su (su (su (su σ 3 ((ntS (σ 5) t (4 + a) (tbl1.getD a 0) (nxS (σ 5) t S)).2.2)) 7 (fun _ => nI (tkK (σ 5) t (ntS (σ 5) t (4 + a) (tbl1.getD a 0) (nxS (σ 5) t S)).2.1))) 8 (fun _ => nI (tkF (σ 5) t (ntS (σ 5) t (4 + a) (tbl1.getD a 0) (nxS (σ 5) t S)).2.1))) 9 (fun _ => nI (tkT (σ 5) t (ntS (σ 5) t (4 + a) (tbl1.getD a 0) (nxS (σ 5) t S)).2.1))) ++ post)) := by
  refine CTi.of (lv0 := [(0, .ref (h 33)), (1, .int (nI a))]) (by decide) rfl (Nat.le_of_ble_eq_true rfl) (fun p e s m args below meth c A C hr hlk => ?_)
  have C : Cx p s m args c cX3_readLaw 2 RX3 ad D (tysW cs) A := C
  have hk_ := tkK_le (σ 5) t S.2.1
  have hf_ := tkF_le (T := σ 5) hi
  have ht_ := tkT_le (T := σ 5) hi
  refine r_blk (blk' := wX cs h (su (su (su (su σ 3 S.2.2) 7 (fun _ => nI (tkK (σ 5) t S.2.1))) 8 (fun _ => nI (tkF (σ 5) t S.2.1))) 9 (fun _ => nI (tkT (σ 5) t S.2.1)))) (by rw [← h3, ← h7, ← h8, ← h9] <;> rfl) ?_
  refine r_aload_n (pc := 0) C 0 dX3_readLaw_0 rfl rfl ?_
  refine rc_Vv (pc := 1) C (t_X3_readWord' l ad D cs h (su (su (su (su σ 3 S.2.2) 7 (fun _ => nI (tkK (σ 5) t S.2.1))) 8 (fun _ => nI (tkF (σ 5) t S.2.1))) 9 (fun _ => nI (tkT (σ 5) t S.2.1))) pre post (σ 5) (((((su_nn (by decide)).trans (su_nn (by decide))).trans (su_nn (by decide))).trans (su_nn (by decide)))) (σ 6) (((((su_nn (by decide)).trans (su_nn (by decide))).trans (su_nn (by decide))).trans (su_nn (by decide)))) (fun _ => nI (tkT (σ 5) t S.2.1)) (su_at) t (tkT (σ 5) t S.2.1) hT ht hb rfl (tkT_le hi).2) mv_X3_readWord ml_RX3_32 rfl ⟨Nat.le_of_ble_eq_true rfl, Nat.le_of_ble_eq_true rfl⟩ ⟨rfl, rfl⟩ (q0 := 33) rfl rfl rfl rfl rfl rfl (Nat.le_of_ble_eq_true rfl) dX3_readLaw_1 ?_
  refine r_blk (blk' := wX cs h (su (su (su (su σ 3 S.2.2) 7 (fun _ => nI (tkK (σ 5) t (tkT (σ 5) t S.2.1)))) 8 (fun _ => nI (tkF (σ 5) t (tkT (σ 5) t S.2.1)))) 9 (fun _ => nI (tkT (σ 5) t (tkT (σ 5) t S.2.1))))) (congrArg (wX cs h) (by rw [su_cm (k := 9) (j := 7) (by decide), su_cm (k := 8) (j := 7) (by decide), su_su (k := 7), su_cm (k := 9) (j := 8) (by decide), su_su (k := 8), su_su (k := 9)])) ?_
  refine r_blk (blk' := wX cs h (su (su (su (su σ 3 ((nxS (σ 5) t S).2.2)) 7 (fun _ => nI (tkK (σ 5) t (nxS (σ 5) t S).2.1))) 8 (fun _ => nI (tkF (σ 5) t (nxS (σ 5) t S).2.1))) 9 (fun _ => nI (tkT (σ 5) t (nxS (σ 5) t S).2.1)))) rfl ?_
  have le_1 : (nxS (σ 5) t S).2.1 ≤ t := nxS_le hi
  refine r_aload_n (pc := 4) C 0 dX3_readLaw_4 rfl rfl ?_
  refine r_getsN (pc := 5) C (C_nw C).2.2.2.2.2.2.2.2.2 (C_t1 C).1 dX3_readLaw_5 ?_
  refine r_iload_n (pc := 8) C 1 dX3_readLaw_8 rfl rfl ?_
  refine r_ti (pc := 9) C (C_t1 C).2 a (rfl) (show a < 4 by omega) (by decide) (v := tbl1.getD a 0) rfl dX3_readLaw_9 ?_
  refine rc_Vi (pc := 10) C (t_X3_isNumberTo' l ad D cs h (su (su (su (su σ 3 ((nxS (σ 5) t S).2.2)) 7 (fun _ => nI (tkK (σ 5) t (nxS (σ 5) t S).2.1))) 8 (fun _ => nI (tkF (σ 5) t (nxS (σ 5) t S).2.1))) 9 (fun _ => nI (tkT (σ 5) t (nxS (σ 5) t S).2.1))) pre post (σ 5) (((((su_nn (by decide)).trans (su_nn (by decide))).trans (su_nn (by decide))).trans (su_nn (by decide)))) (σ 6) (((((su_nn (by decide)).trans (su_nn (by decide))).trans (su_nn (by decide))).trans (su_nn (by decide)))) (fun _ => nI (tkK (σ 5) t (nxS (σ 5) t S).2.1)) (((su_nn (by decide)).trans (su_nn (by decide))).trans su_at) (fun _ => nI (tkF (σ 5) t (nxS (σ 5) t S).2.1)) ((su_nn (by decide)).trans su_at) (fun _ => nI (tkT (σ 5) t (nxS (σ 5) t S).2.1)) (su_at) t (nxS (σ 5) t S).2.1 (tbl1.getD a 0) hT ht hb le_1 rfl rfl rfl) mv_X3_isNumberTo ml_RX3_67 rfl ⟨Nat.le_of_ble_eq_true rfl, Nat.le_of_ble_eq_true rfl⟩ ⟨rfl, rfl⟩ (q0 := 33) rfl rfl rfl rfl rfl rfl (Nat.le_of_ble_eq_true rfl) dX3_readLaw_10 ?_
  refine r_if_ne (pc := 13) C 18 dX3_readLaw_13 (by decide) (fun c_2 => ?_) (fun c_2 => ?_)
  · skip
    have c_2 := bI_n.mp c_2
    have hph : (ntS (σ 5) t (4 + a) (tbl1.getD a 0) (nxS (σ 5) t S)) = _ := nx_t hw c_2
    have hrz : (ntS (σ 5) t (4 + a) (tbl1.getD a 0) (nxS (σ 5) t S)).1 = false := by rw [hph]
    obtain ⟨hN2, hN3⟩ := nb_of c_2
    refine r_aload_n (pc := 18) C 0 dX3_readLaw_18 rfl rfl ?_
    refine xg_t_told (pc := 19) C fl_RX3_12 dX3_readLaw_19 ?_
    refine xg_laws_3 (pc := 22) C fl_RX3_70 dX3_readLaw_22 ?_
    refine r_iload_n (pc := 25) C 1 dX3_readLaw_25 rfl rfl ?_
    refine r_aload_n (pc := 26) C 0 dX3_readLaw_26 rfl rfl ?_
    refine rc_Vi (pc := 27) C (t_X3_numberRead' l ad D cs h (su (su (su (su σ 3 ((nxS (σ 5) t S).2.2)) 7 (fun _ => nI (tkK (σ 5) t (nxS (σ 5) t S).2.1))) 8 (fun _ => nI (tkF (σ 5) t (nxS (σ 5) t S).2.1))) 9 (fun _ => nI (tkT (σ 5) t (nxS (σ 5) t S).2.1))) pre post (σ 5) (((((su_nn (by decide)).trans (su_nn (by decide))).trans (su_nn (by decide))).trans (su_nn (by decide)))) (σ 6) (((((su_nn (by decide)).trans (su_nn (by decide))).trans (su_nn (by decide))).trans (su_nn (by decide)))) (fun _ => nI (tkK (σ 5) t (nxS (σ 5) t S).2.1)) (((su_nn (by decide)).trans (su_nn (by decide))).trans su_at) (fun _ => nI (tkF (σ 5) t (nxS (σ 5) t S).2.1)) ((su_nn (by decide)).trans su_at) (fun _ => nI (tkT (σ 5) t (nxS (σ 5) t S).2.1)) (su_at) t (nxS (σ 5) t S).2.1 hT ht hb le_1 rfl rfl rfl hN2 hN3) mv_X3_numberRead ml_RX3_73 rfl ⟨Nat.le_of_ble_eq_true rfl, Nat.le_of_ble_eq_true rfl⟩ ⟨rfl, rfl⟩ (q0 := 33) rfl rfl rfl rfl rfl rfl (Nat.le_of_ble_eq_true rfl) dX3_readLaw_27 ?_
    refine xs_laws_3 (pc := 30) C a (rfl) (by omega) dX3_readLaw_30 (4 + a) rfl ((nxS (σ 5) t S).2.2) ((((su_nn (by decide)).trans (su_nn (by decide))).trans (su_nn (by decide))).trans su_at) ?_
    refine r_blk (blk' := wX cs h (su (su (su (su σ 3 (upd ((nxS (σ 5) t S).2.2) (4 + a) (tkV (σ 5) t (nxS (σ 5) t S).2.1))) 7 (fun _ => nI (tkK (σ 5) t (nxS (σ 5) t S).2.1))) 8 (fun _ => nI (tkF (σ 5) t (nxS (σ 5) t S).2.1))) 9 (fun _ => nI (tkT (σ 5) t (nxS (σ 5) t S).2.1)))) (congrArg (wX cs h) (by rw [su_cm (k := 9) (j := 3) (by decide), su_cm (k := 8) (j := 3) (by decide), su_cm (k := 7) (j := 3) (by decide), su_su])) ?_
    refine r_aload_n (pc := 31) C 0 dX3_readLaw_31 rfl rfl ?_
    refine rc_Vv (pc := 32) C (t_X3_readWord' l ad D cs h (su (su (su (su σ 3 (upd ((nxS (σ 5) t S).2.2) (4 + a) (tkV (σ 5) t (nxS (σ 5) t S).2.1))) 7 (fun _ => nI (tkK (σ 5) t (nxS (σ 5) t S).2.1))) 8 (fun _ => nI (tkF (σ 5) t (nxS (σ 5) t S).2.1))) 9 (fun _ => nI (tkT (σ 5) t (nxS (σ 5) t S).2.1))) pre post (σ 5) (((((su_nn (by decide)).trans (su_nn (by decide))).trans (su_nn (by decide))).trans (su_nn (by decide)))) (σ 6) (((((su_nn (by decide)).trans (su_nn (by decide))).trans (su_nn (by decide))).trans (su_nn (by decide)))) (fun _ => nI (tkT (σ 5) t (nxS (σ 5) t S).2.1)) (su_at) t (tkT (σ 5) t (nxS (σ 5) t S).2.1) hT ht hb rfl (tkT_le le_1).2) mv_X3_readWord ml_RX3_32 rfl ⟨Nat.le_of_ble_eq_true rfl, Nat.le_of_ble_eq_true rfl⟩ ⟨rfl, rfl⟩ (q0 := 33) rfl rfl rfl rfl rfl rfl (Nat.le_of_ble_eq_true rfl) dX3_readLaw_32 ?_
    refine r_blk (blk' := wX cs h (su (su (su (su σ 3 (upd ((nxS (σ 5) t S).2.2) (4 + a) (tkV (σ 5) t (nxS (σ 5) t S).2.1))) 7 (fun _ => nI (tkK (σ 5) t (tkT (σ 5) t (nxS (σ 5) t S).2.1)))) 8 (fun _ => nI (tkF (σ 5) t (tkT (σ 5) t (nxS (σ 5) t S).2.1)))) 9 (fun _ => nI (tkT (σ 5) t (tkT (σ 5) t (nxS (σ 5) t S).2.1))))) (congrArg (wX cs h) (by rw [su_cm (k := 9) (j := 7) (by decide), su_cm (k := 8) (j := 7) (by decide), su_su (k := 7), su_cm (k := 9) (j := 8) (by decide), su_su (k := 8), su_su (k := 9)])) ?_
    refine r_blk (blk' := wX cs h (su (su (su (su σ 3 ((false, tkT (σ 5) t (nxS (σ 5) t S).2.1, upd (nxS (σ 5) t S).2.2 (4 + a) (tkV (σ 5) t (nxS (σ 5) t S).2.1)).2.2)) 7 (fun _ => nI (tkK (σ 5) t (false, tkT (σ 5) t (nxS (σ 5) t S).2.1, upd (nxS (σ 5) t S).2.2 (4 + a) (tkV (σ 5) t (nxS (σ 5) t S).2.1)).2.1))) 8 (fun _ => nI (tkF (σ 5) t (false, tkT (σ 5) t (nxS (σ 5) t S).2.1, upd (nxS (σ 5) t S).2.2 (4 + a) (tkV (σ 5) t (nxS (σ 5) t S).2.1)).2.1))) 9 (fun _ => nI (tkT (σ 5) t (false, tkT (σ 5) t (nxS (σ 5) t S).2.1, upd (nxS (σ 5) t S).2.2 (4 + a) (tkV (σ 5) t (nxS (σ 5) t S).2.1)).2.1)))) rfl ?_
    refine r_iconst (pc := 35) C 1 dX3_readLaw_35 (by decide) ?_
    exact r_iret (pc := 36) C hr hlk dX3_readLaw_36 rfl (bI_t hrz) (by rw [hph] <;> rfl)
  · skip
    have c_2 := bI_0.mp c_2
    have hph : (ntS (σ 5) t (4 + a) (tbl1.getD a 0) (nxS (σ 5) t S)) = (true, (nxS (σ 5) t S).2) := nx_f (Bool.not_eq_true _ ▸ c_2)
    have hrz : ¬ (ntS (σ 5) t (4 + a) (tbl1.getD a 0) (nxS (σ 5) t S)).1 = false := by rw [hph]; simp
    refine r_iconst (pc := 16) C 0 dX3_readLaw_16 (by decide) ?_
    exact r_iret (pc := 17) C hr hlk dX3_readLaw_17 rfl (bI_f hrz) (by rw [hph] <;> rfl)
theorem t_X3_readLaw' (l : Launch) (ad : Nat → Nat) (D : va_G) (cs : Nat → ClassId) (h : Nat → Nat) (σ : Nat → Nat → Int32) (pre post : va_W) (f3_ : Nat → Int32) (e3_ : σ 3 = f3_) (f5_ : Nat → Int32) (e5_ : σ 5 = f5_) (f6_ : Nat → Int32) (e6_ : σ 6 = f6_) (f7_ : Nat → Int32) (e7_ : σ 7 = f7_) (f8_ : Nat → Int32) (e8_ : σ 8 = f8_) (f9_ : Nat → Int32) (e9_ : σ 9 = f9_) (t : Nat) (a : Nat) (S : PS) (hT : f6_ 0 = nI t) (ht : t ≤ 200) (hb : ∀ j : Nat, j < t → 0 ≤ (f5_ j).toInt ∧ (f5_ j).toInt ≤ 255) (hi : S.2.1 ≤ t) (hw : S.1 = false) (h3 : f3_ = S.2.2) (h7 : f7_ 0 = nI (tkK (f5_) t S.2.1)) (h8 : f8_ 0 = nI (tkF (f5_) t S.2.1)) (h9 : f9_ 0 = nI (tkT (f5_) t S.2.1)) (ha : a < 4) : CTi l yX3_readLaw cX3_readLaw 2 .boolean ({ frames := 2, cells := 0, slots := 0, locals := 43 }) ad D (tysW cs) (pre ++ (wX cs h σ ++ post)) [.ref (h 33), .int (nI a)] (bI ((ntS (f5_) t (4 + a) (tbl1.getD a 0) (nxS (f5_) t S)).1 = false)) (pre ++ (wX cs h (su (su (su (su σ 3 ((ntS (f5_) t (4 + a) (tbl1.getD a 0) (nxS (f5_) t S)).2.2)) 7 (fun _ => nI (tkK (f5_) t (ntS (f5_) t (4 + a) (tbl1.getD a 0) (nxS (f5_) t S)).2.1))) 8 (fun _ => nI (tkF (f5_) t (ntS (f5_) t (4 + a) (tbl1.getD a 0) (nxS (f5_) t S)).2.1))) 9 (fun _ => nI (tkT (f5_) t (ntS (f5_) t (4 + a) (tbl1.getD a 0) (nxS (f5_) t S)).2.1))) ++ post)) := by
  subst e3_; subst e5_; subst e6_; subst e7_; subst e8_; subst e9_
  exact t_X3_readLaw l ad D cs h σ pre post t a S hT ht hb hi hw h3 h7 h8 h9 ha
theorem dX3_readPerson_0 : decode cX3_readPerson 0 = .ok (.iload_n 1, 1) := by decide +kernel
theorem dX3_readPerson_1 : decode cX3_readPerson 1 = .ok (.ifCond .lt 13, 3) := by decide +kernel
theorem dX3_readPerson_4 : decode cX3_readPerson 4 = .ok (.aload_n 0, 1) := by decide +kernel
theorem dX3_readPerson_5 : decode cX3_readPerson 5 = .ok (.getfield 12, 3) := by decide +kernel
theorem dX3_readPerson_8 : decode cX3_readPerson 8 = .ok (.invokevirtual 76, 3) := by decide +kernel
theorem dX3_readPerson_11 : decode cX3_readPerson 11 = .ok (.ifCond .eq 5, 3) := by decide +kernel
theorem dX3_readPerson_14 : decode cX3_readPerson 14 = .ok (.iconst 0, 1) := by decide +kernel
theorem dX3_readPerson_15 : decode cX3_readPerson 15 = .ok (.ireturn, 1) := by decide +kernel
theorem dX3_readPerson_16 : decode cX3_readPerson 16 = .ok (.aload_n 0, 1) := by decide +kernel
theorem dX3_readPerson_17 : decode cX3_readPerson 17 = .ok (.getfield 12, 3) := by decide +kernel
theorem dX3_readPerson_20 : decode cX3_readPerson 20 = .ok (.iload_n 1, 1) := by decide +kernel
theorem dX3_readPerson_21 : decode cX3_readPerson 21 = .ok (.invokevirtual 79, 3) := by decide +kernel
theorem dX3_readPerson_24 : decode cX3_readPerson 24 = .ok (.istore_n 2, 1) := by decide +kernel
theorem dX3_readPerson_25 : decode cX3_readPerson 25 = .ok (.aload_n 0, 1) := by decide +kernel
theorem dX3_readPerson_26 : decode cX3_readPerson 26 = .ok (.invokevirtual 32, 3) := by decide +kernel
theorem dX3_readPerson_29 : decode cX3_readPerson 29 = .ok (.aload_n 0, 1) := by decide +kernel
theorem dX3_readPerson_30 : decode cX3_readPerson 30 = .ok (.iload_n 2, 1) := by decide +kernel
theorem dX3_readPerson_31 : decode cX3_readPerson 31 = .ok (.iconst 1, 1) := by decide +kernel
theorem dX3_readPerson_32 : decode cX3_readPerson 32 = .ok (.ldc 83, 2) := by decide +kernel
theorem dX3_readPerson_34 : decode cX3_readPerson 34 = .ok (.bipush 99, 2) := by decide +kernel
theorem dX3_readPerson_36 : decode cX3_readPerson 36 = .ok (.invokevirtual 85, 3) := by decide +kernel
theorem dX3_readPerson_39 : decode cX3_readPerson 39 = .ok (.ifCond .eq 47, 3) := by decide +kernel
theorem dX3_readPerson_42 : decode cX3_readPerson 42 = .ok (.aload_n 0, 1) := by decide +kernel
theorem dX3_readPerson_43 : decode cX3_readPerson 43 = .ok (.iload_n 2, 1) := by decide +kernel
theorem dX3_readPerson_44 : decode cX3_readPerson 44 = .ok (.iconst 2, 1) := by decide +kernel
theorem dX3_readPerson_45 : decode cX3_readPerson 45 = .ok (.ldc 89, 2) := by decide +kernel
theorem dX3_readPerson_47 : decode cX3_readPerson 47 = .ok (.bipush 99, 2) := by decide +kernel
theorem dX3_readPerson_49 : decode cX3_readPerson 49 = .ok (.invokevirtual 85, 3) := by decide +kernel
theorem dX3_readPerson_52 : decode cX3_readPerson 52 = .ok (.ifCond .eq 34, 3) := by decide +kernel
theorem dX3_readPerson_55 : decode cX3_readPerson 55 = .ok (.aload_n 0, 1) := by decide +kernel
theorem dX3_readPerson_56 : decode cX3_readPerson 56 = .ok (.iload_n 2, 1) := by decide +kernel
theorem dX3_readPerson_57 : decode cX3_readPerson 57 = .ok (.iconst 3, 1) := by decide +kernel
theorem dX3_readPerson_58 : decode cX3_readPerson 58 = .ok (.ldc 91, 2) := by decide +kernel
theorem dX3_readPerson_60 : decode cX3_readPerson 60 = .ok (.bipush 99, 2) := by decide +kernel
theorem dX3_readPerson_62 : decode cX3_readPerson 62 = .ok (.invokevirtual 85, 3) := by decide +kernel
theorem dX3_readPerson_65 : decode cX3_readPerson 65 = .ok (.ifCond .eq 21, 3) := by decide +kernel
theorem dX3_readPerson_68 : decode cX3_readPerson 68 = .ok (.aload_n 0, 1) := by decide +kernel
theorem dX3_readPerson_69 : decode cX3_readPerson 69 = .ok (.iload_n 2, 1) := by decide +kernel
theorem dX3_readPerson_70 : decode cX3_readPerson 70 = .ok (.iconst 4, 1) := by decide +kernel
theorem dX3_readPerson_71 : decode cX3_readPerson 71 = .ok (.ldc 93, 2) := by decide +kernel
theorem dX3_readPerson_73 : decode cX3_readPerson 73 = .ok (.sipush 999, 3) := by decide +kernel
theorem dX3_readPerson_76 : decode cX3_readPerson 76 = .ok (.invokevirtual 85, 3) := by decide +kernel
theorem dX3_readPerson_79 : decode cX3_readPerson 79 = .ok (.ifCond .eq 7, 3) := by decide +kernel
theorem dX3_readPerson_82 : decode cX3_readPerson 82 = .ok (.iconst 1, 1) := by decide +kernel
theorem dX3_readPerson_83 : decode cX3_readPerson 83 = .ok (.goto 4, 3) := by decide +kernel
theorem dX3_readPerson_86 : decode cX3_readPerson 86 = .ok (.iconst 0, 1) := by decide +kernel
theorem dX3_readPerson_87 : decode cX3_readPerson 87 = .ok (.ireturn, 1) := by decide +kernel
set_option maxHeartbeats 400000 in
set_option maxRecDepth 20000 in
theorem t_X3_readPerson (l : Launch) (ad : Nat → Nat) (D : va_G) (cs : Nat → ClassId) (h : Nat → Nat) (σ : Nat → Nat → Int32) (pre post : va_W) (t : Nat) (n : Nat) (k : Int32) (S : PS) (hT : σ 6 0 = nI t) (ht : t ≤ 200) (hb : ∀ j : Nat, j < t → 0 ≤ (σ 5 j).toInt ∧ (σ 5 j).toInt ≤ 255) (hi : S.2.1 ≤ t) (hw : S.1 = false) (h3 : σ 3 = S.2.2) (h7 : σ 7 0 = nI (tkK (σ 5) t S.2.1)) (h8 : σ 8 0 = nI (tkF (σ 5) t S.2.1)) (h9 : σ 9 0 = nI (tkT (σ 5) t S.2.1)) (hN : S.2.2 0 = nI n) (hn : n ≤ 8) : CTi l yX3_readPerson cX3_readPerson 3 .boolean ({ frames := 7, cells := 0, slots := 0, locals := 152 }) ad D (tysW cs) (pre ++ (wX cs h σ ++ post)) [.ref (h 33), .int k] (bI ((pC4 (σ 5) t n k S).1 = false)) (pre ++ (wX cs h (su (su (su (su σ 3 ((pC4 (σ 5) t n k S).2.2)) 7 (fun _ => nI (tkK (σ 5) t (pC4 (σ 5) t n k S).2.1))) 8 (fun _ => nI (tkF (σ 5) t (pC4 (σ 5) t n k S).2.1))) 9 (fun _ => nI (tkT (σ 5) t (pC4 (σ 5) t n k S).2.1))) ++ post)) := by
  refine CTi.of (lv0 := [(0, .ref (h 33)), (1, .int k)]) (by decide) rfl (Nat.le_of_ble_eq_true rfl) (fun p e s m args below meth c A C hr hlk => ?_)
  have C : Cx p s m args c cX3_readPerson 3 RX3 ad D (tysW cs) A := C
  have hk_ := tkK_le (σ 5) t S.2.1
  have hf_ := tkF_le (T := σ 5) hi
  have ht_ := tkT_le (T := σ 5) hi
  refine r_blk (blk' := wX cs h (su (su (su (su σ 3 S.2.2) 7 (fun _ => nI (tkK (σ 5) t S.2.1))) 8 (fun _ => nI (tkF (σ 5) t S.2.1))) 9 (fun _ => nI (tkT (σ 5) t S.2.1)))) (by rw [← h3, ← h7, ← h8, ← h9] <;> rfl) ?_
  refine r_iload_n (pc := 0) C 1 dX3_readPerson_0 rfl rfl ?_
  refine r_if_lt (pc := 1) C 14 dX3_readPerson_1 (by decide) (fun c_1 => ?_) (fun c_1 => ?_)
  · skip
    have hph : (pC4 (σ 5) t n k S) = (true, S.2) := pc_w (pc_lt c_1)
    have hrz : ¬ (pC4 (σ 5) t n k S).1 = false := by rw [hph]; simp
    refine r_iconst (pc := 14) C 0 dX3_readPerson_14 (by decide) ?_
    exact r_iret (pc := 15) C hr hlk dX3_readPerson_15 rfl (bI_f hrz) (by rw [hph] <;> rfl)
  · skip
    have hk0 := c_1
    refine r_aload_n (pc := 4) C 0 dX3_readPerson_4 rfl rfl ?_
    refine xg_t_told (pc := 5) C fl_RX3_12 dX3_readPerson_5 ?_
    refine rc_Vi (pc := 8) C (t_X0_isFull' l ad D cs (fun j => h (25 + j)) (fun _ => S.2.2) (pre ++ xA_3 cs h (su (su (su (su σ 3 S.2.2) 7 (fun _ => nI (tkK (σ 5) t S.2.1))) 8 (fun _ => nI (tkF (σ 5) t S.2.1))) 9 (fun _ => nI (tkT (σ 5) t S.2.1)))) (xC_3 cs h (su (su (su (su σ 3 S.2.2) 7 (fun _ => nI (tkK (σ 5) t S.2.1))) 8 (fun _ => nI (tkF (σ 5) t S.2.1))) 9 (fun _ => nI (tkT (σ 5) t S.2.1))) ++ post) S.2.2 rfl n hN hn) mv_X0_isFull ml_RX3_76 rfl ⟨Nat.le_of_ble_eq_true rfl, Nat.le_of_ble_eq_true rfl⟩ ⟨rfl, rfl⟩ (q0 := 0) rfl rfl rfl fx_3 fx_3.symm rfl (Nat.le_of_ble_eq_true rfl) dX3_readPerson_8 ?_
    refine r_if_eq (pc := 11) C 16 dX3_readPerson_11 (by decide) (fun c_2 => ?_) (fun c_2 => ?_)
    · skip
      have c_2 := bI_0.mp c_2
      have hl : n < 8 := by omega
      refine r_aload_n (pc := 16) C 0 dX3_readPerson_16 rfl rfl ?_
      refine xg_t_told (pc := 17) C fl_RX3_12 dX3_readPerson_17 ?_
      refine r_iload_n (pc := 20) C 1 dX3_readPerson_20 rfl rfl ?_
      refine rc_Vi (pc := 21) C (t_X0_addPerson' l ad D cs (fun j => h (25 + j)) (fun _ => S.2.2) (pre ++ xA_3 cs h (su (su (su (su σ 3 S.2.2) 7 (fun _ => nI (tkK (σ 5) t S.2.1))) 8 (fun _ => nI (tkF (σ 5) t S.2.1))) 9 (fun _ => nI (tkT (σ 5) t S.2.1)))) (xC_3 cs h (su (su (su (su σ 3 S.2.2) 7 (fun _ => nI (tkK (σ 5) t S.2.1))) 8 (fun _ => nI (tkF (σ 5) t S.2.1))) 9 (fun _ => nI (tkT (σ 5) t S.2.1))) ++ post) S.2.2 rfl n k hN hn (by omega)) mv_X0_addPerson ml_RX3_79 rfl ⟨Nat.le_of_ble_eq_true rfl, Nat.le_of_ble_eq_true rfl⟩ ⟨rfl, rfl⟩ (q0 := 0) rfl rfl rfl fx_3 (bx_3 _) rfl (Nat.le_of_ble_eq_true rfl) dX3_readPerson_21 ?_
      refine r_blk (blk' := wX cs h (su (su (su (su σ 3 (perC n (S.2.2) k)) 7 (fun _ => nI (tkK (σ 5) t S.2.1))) 8 (fun _ => nI (tkF (σ 5) t S.2.1))) 9 (fun _ => nI (tkT (σ 5) t S.2.1)))) (congrArg (wX cs h) (by rw [su_cm (k := 9) (j := 3) (by decide), su_cm (k := 8) (j := 3) (by decide), su_cm (k := 7) (j := 3) (by decide), su_su (k := 3)])) ?_
      refine r_istore_n (pc := 24) C [(2, .int (nI n)), (0, .ref (h 33)), (1, .int k)] dX3_readPerson_24 rfl (by decide) rfl ?_
      refine r_aload_n (pc := 25) C 1 dX3_readPerson_25 rfl rfl ?_
      refine rc_Vv (pc := 26) C (t_X3_readWord' l ad D cs h (su (su (su (su σ 3 (perC n (S.2.2) k)) 7 (fun _ => nI (tkK (σ 5) t S.2.1))) 8 (fun _ => nI (tkF (σ 5) t S.2.1))) 9 (fun _ => nI (tkT (σ 5) t S.2.1))) pre post (σ 5) (((((su_nn (by decide)).trans (su_nn (by decide))).trans (su_nn (by decide))).trans (su_nn (by decide)))) (σ 6) (((((su_nn (by decide)).trans (su_nn (by decide))).trans (su_nn (by decide))).trans (su_nn (by decide)))) (fun _ => nI (tkT (σ 5) t S.2.1)) (su_at) t (tkT (σ 5) t S.2.1) hT ht hb rfl (tkT_le hi).2) mv_X3_readWord ml_RX3_32 rfl ⟨Nat.le_of_ble_eq_true rfl, Nat.le_of_ble_eq_true rfl⟩ ⟨rfl, rfl⟩ (q0 := 33) rfl rfl rfl rfl rfl rfl (Nat.le_of_ble_eq_true rfl) dX3_readPerson_26 ?_
      refine r_blk (blk' := wX cs h (su (su (su (su σ 3 (perC n (S.2.2) k)) 7 (fun _ => nI (tkK (σ 5) t (tkT (σ 5) t S.2.1)))) 8 (fun _ => nI (tkF (σ 5) t (tkT (σ 5) t S.2.1)))) 9 (fun _ => nI (tkT (σ 5) t (tkT (σ 5) t S.2.1))))) (congrArg (wX cs h) (by rw [su_cm (k := 9) (j := 7) (by decide), su_cm (k := 8) (j := 7) (by decide), su_su (k := 7), su_cm (k := 9) (j := 8) (by decide), su_su (k := 8), su_su (k := 9)])) ?_
      have hw0 : (pC0 (σ 5) t n k S).1 = false := by rw [pc_ok hk0 hl]
      refine r_blk (blk' := wX cs h (su (su (su (su σ 3 ((pC0 (σ 5) t n k S).2.2)) 7 (fun _ => nI (tkK (σ 5) t (pC0 (σ 5) t n k S).2.1))) 8 (fun _ => nI (tkF (σ 5) t (pC0 (σ 5) t n k S).2.1))) 9 (fun _ => nI (tkT (σ 5) t (pC0 (σ 5) t n k S).2.1)))) (by rw [show (pC0 (σ 5) t n k S) = (false, tkT (σ 5) t S.2.1, perC n S.2.2 k) from pc_ok hk0 hl] <;> rfl) ?_
      have le_3 : (pC0 (σ 5) t n k S).2.1 ≤ t := pC0_le hi
      refine r_aload_n (pc := 29) C 1 dX3_readPerson_29 rfl rfl ?_
      refine r_iload_n (pc := 30) C 0 dX3_readPerson_30 rfl rfl ?_
      refine r_iconst (pc := 31) C 1 dX3_readPerson_31 (by decide) ?_
      refine r_ldcS (pc := 32) C 10 (by decide) rfl dX3_readPerson_32 ?_
      refine r_bipush (pc := 34) C 99 dX3_readPerson_34 (by decide) ?_
      refine rc_Vi (pc := 36) C (t_X3_readTrait' l ad D cs h (su (su (su (su σ 3 ((pC0 (σ 5) t n k S).2.2)) 7 (fun _ => nI (tkK (σ 5) t (pC0 (σ 5) t n k S).2.1))) 8 (fun _ => nI (tkF (σ 5) t (pC0 (σ 5) t n k S).2.1))) 9 (fun _ => nI (tkT (σ 5) t (pC0 (σ 5) t n k S).2.1))) pre post ((pC0 (σ 5) t n k S).2.2) ((((su_nn (by decide)).trans (su_nn (by decide))).trans (su_nn (by decide))).trans su_at) (σ 5) (((((su_nn (by decide)).trans (su_nn (by decide))).trans (su_nn (by decide))).trans (su_nn (by decide)))) (σ 6) (((((su_nn (by decide)).trans (su_nn (by decide))).trans (su_nn (by decide))).trans (su_nn (by decide)))) (fun _ => nI (tkK (σ 5) t (pC0 (σ 5) t n k S).2.1)) (((su_nn (by decide)).trans (su_nn (by decide))).trans su_at) (fun _ => nI (tkF (σ 5) t (pC0 (σ 5) t n k S).2.1)) ((su_nn (by decide)).trans su_at) (fun _ => nI (tkT (σ 5) t (pC0 (σ 5) t n k S).2.1)) (su_at) t n 1 10 (99 : Int32) (pC0 (σ 5) t n k S) hT ht hb le_3 hw0 rfl rfl rfl rfl (by omega) (by omega) (by omega)) mv_X3_readTrait ml_RX3_85 rfl ⟨Nat.le_of_ble_eq_true rfl, Nat.le_of_ble_eq_true rfl⟩ ⟨rfl, rfl⟩ (q0 := 33) rfl rfl rfl rfl rfl rfl (Nat.le_of_ble_eq_true rfl) dX3_readPerson_36 ?_
      refine r_blk (blk' := wX cs h (su (su (su (su σ 3 ((phS (σ 5) t (nameB (σ 5) t (pC0 (σ 5) t n k S).2.1 10) (8 + 5 * n + 1) (99 : Int32) (pC0 (σ 5) t n k S)).2.2)) 7 (fun _ => nI (tkK (σ 5) t (phS (σ 5) t (nameB (σ 5) t (pC0 (σ 5) t n k S).2.1 10) (8 + 5 * n + 1) (99 : Int32) (pC0 (σ 5) t n k S)).2.1))) 8 (fun _ => nI (tkF (σ 5) t (phS (σ 5) t (nameB (σ 5) t (pC0 (σ 5) t n k S).2.1 10) (8 + 5 * n + 1) (99 : Int32) (pC0 (σ 5) t n k S)).2.1))) 9 (fun _ => nI (tkT (σ 5) t (phS (σ 5) t (nameB (σ 5) t (pC0 (σ 5) t n k S).2.1 10) (8 + 5 * n + 1) (99 : Int32) (pC0 (σ 5) t n k S)).2.1)))) (congrArg (wX cs h) (by rw [su_cm (k := 9) (j := 3) (by decide), su_cm (k := 8) (j := 3) (by decide), su_cm (k := 7) (j := 3) (by decide), su_su (k := 3), su_cm (k := 9) (j := 7) (by decide), su_cm (k := 8) (j := 7) (by decide), su_su (k := 7), su_cm (k := 9) (j := 8) (by decide), su_su (k := 8), su_su (k := 9)])) ?_
      refine r_blk (blk' := wX cs h (su (su (su (su σ 3 ((pC1 (σ 5) t n k S).2.2)) 7 (fun _ => nI (tkK (σ 5) t (pC1 (σ 5) t n k S).2.1))) 8 (fun _ => nI (tkF (σ 5) t (pC1 (σ 5) t n k S).2.1))) 9 (fun _ => nI (tkT (σ 5) t (pC1 (σ 5) t n k S).2.1)))) rfl ?_
      have le_4 : (pC1 (σ 5) t n k S).2.1 ≤ t := pC1_le hi
      refine r_eqi (y := bI ((pC1 (σ 5) t n k S).1 = false)) rfl ?_
      refine r_if_eq (pc := 39) C 86 dX3_readPerson_39 (by decide) (fun c_5 => ?_) (fun c_5 => ?_)
      · skip
        have c_5 := bI_0.mp c_5
        have hph : (pC4 (σ 5) t n k S) = (pC1 (σ 5) t n k S) := pc_1 c_5
        have hrz : ¬ (pC4 (σ 5) t n k S).1 = false := by rw [hph]; exact c_5
        refine r_iconst (pc := 86) C 0 dX3_readPerson_86 (by decide) ?_
        exact r_iret (pc := 87) C hr hlk dX3_readPerson_87 rfl (bI_f hrz) (by rw [hph] <;> rfl)
      · skip
        have c_5 := bI_n.mp c_5
        refine r_aload_n (pc := 42) C 1 dX3_readPerson_42 rfl rfl ?_
        refine r_iload_n (pc := 43) C 0 dX3_readPerson_43 rfl rfl ?_
        refine r_iconst (pc := 44) C 2 dX3_readPerson_44 (by decide) ?_
        refine r_ldcS (pc := 45) C 11 (by decide) rfl dX3_readPerson_45 ?_
        refine r_bipush (pc := 47) C 99 dX3_readPerson_47 (by decide) ?_
        refine rc_Vi (pc := 49) C (t_X3_readTrait' l ad D cs h (su (su (su (su σ 3 ((pC1 (σ 5) t n k S).2.2)) 7 (fun _ => nI (tkK (σ 5) t (pC1 (σ 5) t n k S).2.1))) 8 (fun _ => nI (tkF (σ 5) t (pC1 (σ 5) t n k S).2.1))) 9 (fun _ => nI (tkT (σ 5) t (pC1 (σ 5) t n k S).2.1))) pre post ((pC1 (σ 5) t n k S).2.2) ((((su_nn (by decide)).trans (su_nn (by decide))).trans (su_nn (by decide))).trans su_at) (σ 5) (((((su_nn (by decide)).trans (su_nn (by decide))).trans (su_nn (by decide))).trans (su_nn (by decide)))) (σ 6) (((((su_nn (by decide)).trans (su_nn (by decide))).trans (su_nn (by decide))).trans (su_nn (by decide)))) (fun _ => nI (tkK (σ 5) t (pC1 (σ 5) t n k S).2.1)) (((su_nn (by decide)).trans (su_nn (by decide))).trans su_at) (fun _ => nI (tkF (σ 5) t (pC1 (σ 5) t n k S).2.1)) ((su_nn (by decide)).trans su_at) (fun _ => nI (tkT (σ 5) t (pC1 (σ 5) t n k S).2.1)) (su_at) t n 2 11 (99 : Int32) (pC1 (σ 5) t n k S) hT ht hb le_4 c_5 rfl rfl rfl rfl (by omega) (by omega) (by omega)) mv_X3_readTrait ml_RX3_85 rfl ⟨Nat.le_of_ble_eq_true rfl, Nat.le_of_ble_eq_true rfl⟩ ⟨rfl, rfl⟩ (q0 := 33) rfl rfl rfl rfl rfl rfl (Nat.le_of_ble_eq_true rfl) dX3_readPerson_49 ?_
        refine r_blk (blk' := wX cs h (su (su (su (su σ 3 ((phS (σ 5) t (nameB (σ 5) t (pC1 (σ 5) t n k S).2.1 11) (8 + 5 * n + 2) (99 : Int32) (pC1 (σ 5) t n k S)).2.2)) 7 (fun _ => nI (tkK (σ 5) t (phS (σ 5) t (nameB (σ 5) t (pC1 (σ 5) t n k S).2.1 11) (8 + 5 * n + 2) (99 : Int32) (pC1 (σ 5) t n k S)).2.1))) 8 (fun _ => nI (tkF (σ 5) t (phS (σ 5) t (nameB (σ 5) t (pC1 (σ 5) t n k S).2.1 11) (8 + 5 * n + 2) (99 : Int32) (pC1 (σ 5) t n k S)).2.1))) 9 (fun _ => nI (tkT (σ 5) t (phS (σ 5) t (nameB (σ 5) t (pC1 (σ 5) t n k S).2.1 11) (8 + 5 * n + 2) (99 : Int32) (pC1 (σ 5) t n k S)).2.1)))) (congrArg (wX cs h) (by rw [su_cm (k := 9) (j := 3) (by decide), su_cm (k := 8) (j := 3) (by decide), su_cm (k := 7) (j := 3) (by decide), su_su (k := 3), su_cm (k := 9) (j := 7) (by decide), su_cm (k := 8) (j := 7) (by decide), su_su (k := 7), su_cm (k := 9) (j := 8) (by decide), su_su (k := 8), su_su (k := 9)])) ?_
        refine r_blk (blk' := wX cs h (su (su (su (su σ 3 ((pC2 (σ 5) t n k S).2.2)) 7 (fun _ => nI (tkK (σ 5) t (pC2 (σ 5) t n k S).2.1))) 8 (fun _ => nI (tkF (σ 5) t (pC2 (σ 5) t n k S).2.1))) 9 (fun _ => nI (tkT (σ 5) t (pC2 (σ 5) t n k S).2.1)))) rfl ?_
        have le_6 : (pC2 (σ 5) t n k S).2.1 ≤ t := pC2_le hi
        refine r_eqi (y := bI ((pC2 (σ 5) t n k S).1 = false)) rfl ?_
        refine r_if_eq (pc := 52) C 86 dX3_readPerson_52 (by decide) (fun c_7 => ?_) (fun c_7 => ?_)
        · skip
          have c_7 := bI_0.mp c_7
          have hph : (pC4 (σ 5) t n k S) = (pC2 (σ 5) t n k S) := pc_2 c_7
          have hrz : ¬ (pC4 (σ 5) t n k S).1 = false := by rw [hph]; exact c_7
          refine r_iconst (pc := 86) C 0 dX3_readPerson_86 (by decide) ?_
          exact r_iret (pc := 87) C hr hlk dX3_readPerson_87 rfl (bI_f hrz) (by rw [hph] <;> rfl)
        · skip
          have c_7 := bI_n.mp c_7
          refine r_aload_n (pc := 55) C 1 dX3_readPerson_55 rfl rfl ?_
          refine r_iload_n (pc := 56) C 0 dX3_readPerson_56 rfl rfl ?_
          refine r_iconst (pc := 57) C 3 dX3_readPerson_57 (by decide) ?_
          refine r_ldcS (pc := 58) C 12 (by decide) rfl dX3_readPerson_58 ?_
          refine r_bipush (pc := 60) C 99 dX3_readPerson_60 (by decide) ?_
          refine rc_Vi (pc := 62) C (t_X3_readTrait' l ad D cs h (su (su (su (su σ 3 ((pC2 (σ 5) t n k S).2.2)) 7 (fun _ => nI (tkK (σ 5) t (pC2 (σ 5) t n k S).2.1))) 8 (fun _ => nI (tkF (σ 5) t (pC2 (σ 5) t n k S).2.1))) 9 (fun _ => nI (tkT (σ 5) t (pC2 (σ 5) t n k S).2.1))) pre post ((pC2 (σ 5) t n k S).2.2) ((((su_nn (by decide)).trans (su_nn (by decide))).trans (su_nn (by decide))).trans su_at) (σ 5) (((((su_nn (by decide)).trans (su_nn (by decide))).trans (su_nn (by decide))).trans (su_nn (by decide)))) (σ 6) (((((su_nn (by decide)).trans (su_nn (by decide))).trans (su_nn (by decide))).trans (su_nn (by decide)))) (fun _ => nI (tkK (σ 5) t (pC2 (σ 5) t n k S).2.1)) (((su_nn (by decide)).trans (su_nn (by decide))).trans su_at) (fun _ => nI (tkF (σ 5) t (pC2 (σ 5) t n k S).2.1)) ((su_nn (by decide)).trans su_at) (fun _ => nI (tkT (σ 5) t (pC2 (σ 5) t n k S).2.1)) (su_at) t n 3 12 (99 : Int32) (pC2 (σ 5) t n k S) hT ht hb le_6 c_7 rfl rfl rfl rfl (by omega) (by omega) (by omega)) mv_X3_readTrait ml_RX3_85 rfl ⟨Nat.le_of_ble_eq_true rfl, Nat.le_of_ble_eq_true rfl⟩ ⟨rfl, rfl⟩ (q0 := 33) rfl rfl rfl rfl rfl rfl (Nat.le_of_ble_eq_true rfl) dX3_readPerson_62 ?_
          refine r_blk (blk' := wX cs h (su (su (su (su σ 3 ((phS (σ 5) t (nameB (σ 5) t (pC2 (σ 5) t n k S).2.1 12) (8 + 5 * n + 3) (99 : Int32) (pC2 (σ 5) t n k S)).2.2)) 7 (fun _ => nI (tkK (σ 5) t (phS (σ 5) t (nameB (σ 5) t (pC2 (σ 5) t n k S).2.1 12) (8 + 5 * n + 3) (99 : Int32) (pC2 (σ 5) t n k S)).2.1))) 8 (fun _ => nI (tkF (σ 5) t (phS (σ 5) t (nameB (σ 5) t (pC2 (σ 5) t n k S).2.1 12) (8 + 5 * n + 3) (99 : Int32) (pC2 (σ 5) t n k S)).2.1))) 9 (fun _ => nI (tkT (σ 5) t (phS (σ 5) t (nameB (σ 5) t (pC2 (σ 5) t n k S).2.1 12) (8 + 5 * n + 3) (99 : Int32) (pC2 (σ 5) t n k S)).2.1)))) (congrArg (wX cs h) (by rw [su_cm (k := 9) (j := 3) (by decide), su_cm (k := 8) (j := 3) (by decide), su_cm (k := 7) (j := 3) (by decide), su_su (k := 3), su_cm (k := 9) (j := 7) (by decide), su_cm (k := 8) (j := 7) (by decide), su_su (k := 7), su_cm (k := 9) (j := 8) (by decide), su_su (k := 8), su_su (k := 9)])) ?_
          refine r_blk (blk' := wX cs h (su (su (su (su σ 3 ((pC3 (σ 5) t n k S).2.2)) 7 (fun _ => nI (tkK (σ 5) t (pC3 (σ 5) t n k S).2.1))) 8 (fun _ => nI (tkF (σ 5) t (pC3 (σ 5) t n k S).2.1))) 9 (fun _ => nI (tkT (σ 5) t (pC3 (σ 5) t n k S).2.1)))) rfl ?_
          have le_8 : (pC3 (σ 5) t n k S).2.1 ≤ t := pC3_le hi
          refine r_eqi (y := bI ((pC3 (σ 5) t n k S).1 = false)) rfl ?_
          refine r_if_eq (pc := 65) C 86 dX3_readPerson_65 (by decide) (fun c_9 => ?_) (fun c_9 => ?_)
          · skip
            have c_9 := bI_0.mp c_9
            have hph : (pC4 (σ 5) t n k S) = (pC3 (σ 5) t n k S) := pc_3 c_9
            have hrz : ¬ (pC4 (σ 5) t n k S).1 = false := by rw [hph]; exact c_9
            refine r_iconst (pc := 86) C 0 dX3_readPerson_86 (by decide) ?_
            exact r_iret (pc := 87) C hr hlk dX3_readPerson_87 rfl (bI_f hrz) (by rw [hph] <;> rfl)
          · skip
            have c_9 := bI_n.mp c_9
            refine r_aload_n (pc := 68) C 1 dX3_readPerson_68 rfl rfl ?_
            refine r_iload_n (pc := 69) C 0 dX3_readPerson_69 rfl rfl ?_
            refine r_iconst (pc := 70) C 4 dX3_readPerson_70 (by decide) ?_
            refine r_ldcS (pc := 71) C 13 (by decide) rfl dX3_readPerson_71 ?_
            refine r_sipush (pc := 73) C 999 dX3_readPerson_73 (by decide) ?_
            refine rc_Vi (pc := 76) C (t_X3_readTrait' l ad D cs h (su (su (su (su σ 3 ((pC3 (σ 5) t n k S).2.2)) 7 (fun _ => nI (tkK (σ 5) t (pC3 (σ 5) t n k S).2.1))) 8 (fun _ => nI (tkF (σ 5) t (pC3 (σ 5) t n k S).2.1))) 9 (fun _ => nI (tkT (σ 5) t (pC3 (σ 5) t n k S).2.1))) pre post ((pC3 (σ 5) t n k S).2.2) ((((su_nn (by decide)).trans (su_nn (by decide))).trans (su_nn (by decide))).trans su_at) (σ 5) (((((su_nn (by decide)).trans (su_nn (by decide))).trans (su_nn (by decide))).trans (su_nn (by decide)))) (σ 6) (((((su_nn (by decide)).trans (su_nn (by decide))).trans (su_nn (by decide))).trans (su_nn (by decide)))) (fun _ => nI (tkK (σ 5) t (pC3 (σ 5) t n k S).2.1)) (((su_nn (by decide)).trans (su_nn (by decide))).trans su_at) (fun _ => nI (tkF (σ 5) t (pC3 (σ 5) t n k S).2.1)) ((su_nn (by decide)).trans su_at) (fun _ => nI (tkT (σ 5) t (pC3 (σ 5) t n k S).2.1)) (su_at) t n 4 13 (999 : Int32) (pC3 (σ 5) t n k S) hT ht hb le_8 c_9 rfl rfl rfl rfl (by omega) (by omega) (by omega)) mv_X3_readTrait ml_RX3_85 rfl ⟨Nat.le_of_ble_eq_true rfl, Nat.le_of_ble_eq_true rfl⟩ ⟨rfl, rfl⟩ (q0 := 33) rfl rfl rfl rfl rfl rfl (Nat.le_of_ble_eq_true rfl) dX3_readPerson_76 ?_
            refine r_blk (blk' := wX cs h (su (su (su (su σ 3 ((phS (σ 5) t (nameB (σ 5) t (pC3 (σ 5) t n k S).2.1 13) (8 + 5 * n + 4) (999 : Int32) (pC3 (σ 5) t n k S)).2.2)) 7 (fun _ => nI (tkK (σ 5) t (phS (σ 5) t (nameB (σ 5) t (pC3 (σ 5) t n k S).2.1 13) (8 + 5 * n + 4) (999 : Int32) (pC3 (σ 5) t n k S)).2.1))) 8 (fun _ => nI (tkF (σ 5) t (phS (σ 5) t (nameB (σ 5) t (pC3 (σ 5) t n k S).2.1 13) (8 + 5 * n + 4) (999 : Int32) (pC3 (σ 5) t n k S)).2.1))) 9 (fun _ => nI (tkT (σ 5) t (phS (σ 5) t (nameB (σ 5) t (pC3 (σ 5) t n k S).2.1 13) (8 + 5 * n + 4) (999 : Int32) (pC3 (σ 5) t n k S)).2.1)))) (congrArg (wX cs h) (by rw [su_cm (k := 9) (j := 3) (by decide), su_cm (k := 8) (j := 3) (by decide), su_cm (k := 7) (j := 3) (by decide), su_su (k := 3), su_cm (k := 9) (j := 7) (by decide), su_cm (k := 8) (j := 7) (by decide), su_su (k := 7), su_cm (k := 9) (j := 8) (by decide), su_su (k := 8), su_su (k := 9)])) ?_
            refine r_blk (blk' := wX cs h (su (su (su (su σ 3 ((pC4 (σ 5) t n k S).2.2)) 7 (fun _ => nI (tkK (σ 5) t (pC4 (σ 5) t n k S).2.1))) 8 (fun _ => nI (tkF (σ 5) t (pC4 (σ 5) t n k S).2.1))) 9 (fun _ => nI (tkT (σ 5) t (pC4 (σ 5) t n k S).2.1)))) rfl ?_
            have le_10 : (pC4 (σ 5) t n k S).2.1 ≤ t := pC4_le hi
            refine r_eqi (y := bI ((pC4 (σ 5) t n k S).1 = false)) rfl ?_
            refine r_if_eq (pc := 79) C 86 dX3_readPerson_79 (by decide) (fun c_11 => ?_) (fun c_11 => ?_)
            · skip
              have c_11 := bI_0.mp c_11
              have hph : (pC4 (σ 5) t n k S) = (pC4 (σ 5) t n k S) := rfl
              have hrz : ¬ (pC4 (σ 5) t n k S).1 = false := c_11
              refine r_iconst (pc := 86) C 0 dX3_readPerson_86 (by decide) ?_
              exact r_iret (pc := 87) C hr hlk dX3_readPerson_87 rfl (bI_f hrz) rfl
            · skip
              have c_11 := bI_n.mp c_11
              have hph : (pC4 (σ 5) t n k S) = (pC4 (σ 5) t n k S) := rfl
              have hrz : (pC4 (σ 5) t n k S).1 = false := c_11
              refine r_iconst (pc := 82) C 1 dX3_readPerson_82 (by decide) ?_
              refine r_goto (pc := 83) C 87 dX3_readPerson_83 (by decide) ?_
              exact r_iret (pc := 87) C hr hlk dX3_readPerson_87 rfl (bI_t hrz) rfl
    · skip
      have c_2 := bI_n.mp c_2
      have hph : (pC4 (σ 5) t n k S) = (true, S.2) := pc_w (pc_fu (by omega))
      have hrz : ¬ (pC4 (σ 5) t n k S).1 = false := by rw [hph]; simp
      refine r_iconst (pc := 14) C 0 dX3_readPerson_14 (by decide) ?_
      exact r_iret (pc := 15) C hr hlk dX3_readPerson_15 rfl (bI_f hrz) (by rw [hph] <;> rfl)
theorem t_X3_readPerson' (l : Launch) (ad : Nat → Nat) (D : va_G) (cs : Nat → ClassId) (h : Nat → Nat) (σ : Nat → Nat → Int32) (pre post : va_W) (f3_ : Nat → Int32) (e3_ : σ 3 = f3_) (f5_ : Nat → Int32) (e5_ : σ 5 = f5_) (f6_ : Nat → Int32) (e6_ : σ 6 = f6_) (f7_ : Nat → Int32) (e7_ : σ 7 = f7_) (f8_ : Nat → Int32) (e8_ : σ 8 = f8_) (f9_ : Nat → Int32) (e9_ : σ 9 = f9_) (t : Nat) (n : Nat) (k : Int32) (S : PS) (hT : f6_ 0 = nI t) (ht : t ≤ 200) (hb : ∀ j : Nat, j < t → 0 ≤ (f5_ j).toInt ∧ (f5_ j).toInt ≤ 255) (hi : S.2.1 ≤ t) (hw : S.1 = false) (h3 : f3_ = S.2.2) (h7 : f7_ 0 = nI (tkK (f5_) t S.2.1)) (h8 : f8_ 0 = nI (tkF (f5_) t S.2.1)) (h9 : f9_ 0 = nI (tkT (f5_) t S.2.1)) (hN : S.2.2 0 = nI n) (hn : n ≤ 8) : CTi l yX3_readPerson cX3_readPerson 3 .boolean ({ frames := 7, cells := 0, slots := 0, locals := 152 }) ad D (tysW cs) (pre ++ (wX cs h σ ++ post)) [.ref (h 33), .int k] (bI ((pC4 (f5_) t n k S).1 = false)) (pre ++ (wX cs h (su (su (su (su σ 3 ((pC4 (f5_) t n k S).2.2)) 7 (fun _ => nI (tkK (f5_) t (pC4 (f5_) t n k S).2.1))) 8 (fun _ => nI (tkF (f5_) t (pC4 (f5_) t n k S).2.1))) 9 (fun _ => nI (tkT (f5_) t (pC4 (f5_) t n k S).2.1))) ++ post)) := by
  subst e3_; subst e5_; subst e6_; subst e7_; subst e8_; subst e9_
  exact t_X3_readPerson l ad D cs h σ pre post t n k S hT ht hb hi hw h3 h7 h8 h9 hN hn
theorem dX3_readEntry_0 : decode cX3_readEntry 0 = .ok (.aload_n 0, 1) := by decide +kernel
theorem dX3_readEntry_1 : decode cX3_readEntry 1 = .ok (.getfield 35, 3) := by decide +kernel
theorem dX3_readEntry_4 : decode cX3_readEntry 4 = .ok (.iconst 1, 1) := by decide +kernel
theorem dX3_readEntry_5 : decode cX3_readEntry 5 = .ok (.if_icmp .eq 5, 3) := by decide +kernel
theorem dX3_readEntry_8 : decode cX3_readEntry 8 = .ok (.iconst 0, 1) := by decide +kernel
theorem dX3_readEntry_9 : decode cX3_readEntry 9 = .ok (.ireturn, 1) := by decide +kernel
theorem dX3_readEntry_10 : decode cX3_readEntry 10 = .ok (.aload_n 0, 1) := by decide +kernel
theorem dX3_readEntry_11 : decode cX3_readEntry 11 = .ok (.invokevirtual 45, 3) := by decide +kernel
theorem dX3_readEntry_14 : decode cX3_readEntry 14 = .ok (.istore_n 1, 1) := by decide +kernel
theorem dX3_readEntry_15 : decode cX3_readEntry 15 = .ok (.iload_n 1, 1) := by decide +kernel
theorem dX3_readEntry_16 : decode cX3_readEntry 16 = .ok (.ifCond .lt 11, 3) := by decide +kernel
theorem dX3_readEntry_19 : decode cX3_readEntry 19 = .ok (.aload_n 0, 1) := by decide +kernel
theorem dX3_readEntry_20 : decode cX3_readEntry 20 = .ok (.iload_n 1, 1) := by decide +kernel
theorem dX3_readEntry_21 : decode cX3_readEntry 21 = .ok (.invokevirtual 49, 3) := by decide +kernel
theorem dX3_readEntry_24 : decode cX3_readEntry 24 = .ok (.goto 11, 3) := by decide +kernel
theorem dX3_readEntry_27 : decode cX3_readEntry 27 = .ok (.aload_n 0, 1) := by decide +kernel
theorem dX3_readEntry_28 : decode cX3_readEntry 28 = .ok (.aload_n 0, 1) := by decide +kernel
theorem dX3_readEntry_29 : decode cX3_readEntry 29 = .ok (.invokevirtual 53, 3) := by decide +kernel
theorem dX3_readEntry_32 : decode cX3_readEntry 32 = .ok (.invokevirtual 56, 3) := by decide +kernel
theorem dX3_readEntry_35 : decode cX3_readEntry 35 = .ok (.istore_n 2, 1) := by decide +kernel
theorem dX3_readEntry_36 : decode cX3_readEntry 36 = .ok (.iload_n 2, 1) := by decide +kernel
theorem dX3_readEntry_37 : decode cX3_readEntry 37 = .ok (.ifCond .eq 12, 3) := by decide +kernel
theorem dX3_readEntry_40 : decode cX3_readEntry 40 = .ok (.aload_n 0, 1) := by decide +kernel
theorem dX3_readEntry_41 : decode cX3_readEntry 41 = .ok (.bipush 59, 2) := by decide +kernel
theorem dX3_readEntry_43 : decode cX3_readEntry 43 = .ok (.invokevirtual 59, 3) := by decide +kernel
theorem dX3_readEntry_46 : decode cX3_readEntry 46 = .ok (.ifCond .ne 5, 3) := by decide +kernel
theorem dX3_readEntry_49 : decode cX3_readEntry 49 = .ok (.iconst 0, 1) := by decide +kernel
theorem dX3_readEntry_50 : decode cX3_readEntry 50 = .ok (.ireturn, 1) := by decide +kernel
theorem dX3_readEntry_51 : decode cX3_readEntry 51 = .ok (.aload_n 0, 1) := by decide +kernel
theorem dX3_readEntry_52 : decode cX3_readEntry 52 = .ok (.invokevirtual 32, 3) := by decide +kernel
theorem dX3_readEntry_55 : decode cX3_readEntry 55 = .ok (.iconst 1, 1) := by decide +kernel
theorem dX3_readEntry_56 : decode cX3_readEntry 56 = .ok (.ireturn, 1) := by decide +kernel
set_option maxHeartbeats 400000 in
set_option maxRecDepth 20000 in
theorem t_X3_readEntry (l : Launch) (ad : Nat → Nat) (D : va_G) (cs : Nat → ClassId) (h : Nat → Nat) (σ : Nat → Nat → Int32) (pre post : va_W) (t : Nat) (n : Nat) (S : PS) (hT : σ 6 0 = nI t) (ht : t ≤ 200) (hb : ∀ j : Nat, j < t → 0 ≤ (σ 5 j).toInt ∧ (σ 5 j).toInt ≤ 255) (hi : S.2.1 ≤ t) (hw : S.1 = false) (h3 : σ 3 = S.2.2) (h7 : σ 7 0 = nI (tkK (σ 5) t S.2.1)) (h8 : σ 8 0 = nI (tkF (σ 5) t S.2.1)) (h9 : σ 9 0 = nI (tkT (σ 5) t S.2.1)) (hN : S.2.2 0 = nI n) (hn : n ≤ 8) : CTi l yX3_readEntry cX3_readEntry 3 .boolean ({ frames := 8, cells := 0, slots := 0, locals := 174 }) ad D (tysW cs) (pre ++ (wX cs h σ ++ post)) [.ref (h 33)] (bI ((itC (σ 5) t n S).1 = false)) (pre ++ (wX cs h (su (su (su (su σ 3 ((itC (σ 5) t n S).2.2)) 7 (fun _ => nI (tkK (σ 5) t (itC (σ 5) t n S).2.1))) 8 (fun _ => nI (tkF (σ 5) t (itC (σ 5) t n S).2.1))) 9 (fun _ => nI (tkT (σ 5) t (itC (σ 5) t n S).2.1))) ++ post)) := by
  refine CTi.of (lv0 := [(0, .ref (h 33))]) (by decide) rfl (Nat.le_of_ble_eq_true rfl) (fun p e s m args below meth c A C hr hlk => ?_)
  have C : Cx p s m args c cX3_readEntry 3 RX3 ad D (tysW cs) A := C
  have hk_ := tkK_le (σ 5) t S.2.1
  have hf_ := tkF_le (T := σ 5) hi
  have ht_ := tkT_le (T := σ 5) hi
  refine r_blk (blk' := wX cs h (su (su (su (su σ 3 S.2.2) 7 (fun _ => nI (tkK (σ 5) t S.2.1))) 8 (fun _ => nI (tkF (σ 5) t S.2.1))) 9 (fun _ => nI (tkT (σ 5) t S.2.1)))) (by rw [← h3, ← h7, ← h8, ← h9] <;> rfl) ?_
  refine r_aload_n (pc := 0) C 0 dX3_readEntry_0 rfl rfl ?_
  refine xg_t_word (pc := 1) C fl_RX3_35 dX3_readEntry_1 (nI (tkK (σ 5) t S.2.1)) (congrFun (((su_nn (by decide)).trans (su_nn (by decide))).trans su_at) 0) ?_
  refine r_iconst (pc := 4) C 1 dX3_readEntry_4 (by decide) ?_
  refine r_icmp_eq (pc := 5) C 10 dX3_readEntry_5 (by decide) (fun c_1 => ?_) (fun c_1 => ?_)
  · skip
    have c_1 := nIc_eq_t (a := (tkK (σ 5) t S.2.1)) (b := 1) (by omega) (by omega) c_1
    refine r_aload_n (pc := 10) C 0 dX3_readEntry_10 rfl rfl ?_
    refine rc_Vi (pc := 11) C (t_X3_lawNamed' l ad D cs h (su (su (su (su σ 3 S.2.2) 7 (fun _ => nI (tkK (σ 5) t S.2.1))) 8 (fun _ => nI (tkF (σ 5) t S.2.1))) 9 (fun _ => nI (tkT (σ 5) t S.2.1))) pre post (σ 5) (((((su_nn (by decide)).trans (su_nn (by decide))).trans (su_nn (by decide))).trans (su_nn (by decide)))) (σ 6) (((((su_nn (by decide)).trans (su_nn (by decide))).trans (su_nn (by decide))).trans (su_nn (by decide)))) (fun _ => nI (tkK (σ 5) t S.2.1)) (((su_nn (by decide)).trans (su_nn (by decide))).trans su_at) (fun _ => nI (tkF (σ 5) t S.2.1)) ((su_nn (by decide)).trans su_at) (fun _ => nI (tkT (σ 5) t S.2.1)) (su_at) t S.2.1 hT ht hb hi rfl rfl rfl) mv_X3_lawNamed ml_RX3_45 rfl ⟨Nat.le_of_ble_eq_true rfl, Nat.le_of_ble_eq_true rfl⟩ ⟨rfl, rfl⟩ (q0 := 33) rfl rfl rfl rfl rfl rfl (Nat.le_of_ble_eq_true rfl) dX3_readEntry_11 ?_
    refine r_istore_n (pc := 14) C [(1, .int (laC (σ 5) t S.2.1)), (0, .ref (h 33))] dX3_readEntry_14 rfl (by decide) rfl ?_
    refine r_iload_n (pc := 15) C 0 dX3_readEntry_15 rfl rfl ?_
    refine r_if_lt (pc := 16) C 27 dX3_readEntry_16 (by decide) (fun c_2 => ?_) (fun c_2 => ?_)
    · skip
      have hec := ec_p (n := n) c_2
      refine r_aload_n (pc := 27) C 1 dX3_readEntry_27 rfl rfl ?_
      refine r_aload_n (pc := 28) C 1 dX3_readEntry_28 rfl rfl ?_
      refine rc_Vi (pc := 29) C (t_X3_kindNamed' l ad D cs h (su (su (su (su σ 3 S.2.2) 7 (fun _ => nI (tkK (σ 5) t S.2.1))) 8 (fun _ => nI (tkF (σ 5) t S.2.1))) 9 (fun _ => nI (tkT (σ 5) t S.2.1))) pre post (σ 5) (((((su_nn (by decide)).trans (su_nn (by decide))).trans (su_nn (by decide))).trans (su_nn (by decide)))) (σ 6) (((((su_nn (by decide)).trans (su_nn (by decide))).trans (su_nn (by decide))).trans (su_nn (by decide)))) (fun _ => nI (tkK (σ 5) t S.2.1)) (((su_nn (by decide)).trans (su_nn (by decide))).trans su_at) (fun _ => nI (tkF (σ 5) t S.2.1)) ((su_nn (by decide)).trans su_at) (fun _ => nI (tkT (σ 5) t S.2.1)) (su_at) t S.2.1 hT ht hb hi rfl rfl rfl) mv_X3_kindNamed ml_RX3_53 rfl ⟨Nat.le_of_ble_eq_true rfl, Nat.le_of_ble_eq_true rfl⟩ ⟨rfl, rfl⟩ (q0 := 33) rfl rfl rfl rfl rfl rfl (Nat.le_of_ble_eq_true rfl) dX3_readEntry_29 ?_
      refine rc_Vi (pc := 32) C (t_X3_readPerson' l ad D cs h (su (su (su (su σ 3 S.2.2) 7 (fun _ => nI (tkK (σ 5) t S.2.1))) 8 (fun _ => nI (tkF (σ 5) t S.2.1))) 9 (fun _ => nI (tkT (σ 5) t S.2.1))) pre post S.2.2 ((((su_nn (by decide)).trans (su_nn (by decide))).trans (su_nn (by decide))).trans su_at) (σ 5) (((((su_nn (by decide)).trans (su_nn (by decide))).trans (su_nn (by decide))).trans (su_nn (by decide)))) (σ 6) (((((su_nn (by decide)).trans (su_nn (by decide))).trans (su_nn (by decide))).trans (su_nn (by decide)))) (fun _ => nI (tkK (σ 5) t S.2.1)) (((su_nn (by decide)).trans (su_nn (by decide))).trans su_at) (fun _ => nI (tkF (σ 5) t S.2.1)) ((su_nn (by decide)).trans su_at) (fun _ => nI (tkT (σ 5) t S.2.1)) (su_at) t n (kiC (σ 5) t S.2.1) S hT ht hb hi hw rfl rfl rfl rfl hN hn) mv_X3_readPerson ml_RX3_56 rfl ⟨Nat.le_of_ble_eq_true rfl, Nat.le_of_ble_eq_true rfl⟩ ⟨rfl, rfl⟩ (q0 := 33) rfl rfl rfl rfl rfl rfl (Nat.le_of_ble_eq_true rfl) dX3_readEntry_32 ?_
      refine r_blk (blk' := wX cs h (su (su (su (su σ 3 ((pC4 (σ 5) t n (kiC (σ 5) t S.2.1) S).2.2)) 7 (fun _ => nI (tkK (σ 5) t (pC4 (σ 5) t n (kiC (σ 5) t S.2.1) S).2.1))) 8 (fun _ => nI (tkF (σ 5) t (pC4 (σ 5) t n (kiC (σ 5) t S.2.1) S).2.1))) 9 (fun _ => nI (tkT (σ 5) t (pC4 (σ 5) t n (kiC (σ 5) t S.2.1) S).2.1)))) (congrArg (wX cs h) (by rw [su_cm (k := 9) (j := 3) (by decide), su_cm (k := 8) (j := 3) (by decide), su_cm (k := 7) (j := 3) (by decide), su_su (k := 3), su_cm (k := 9) (j := 7) (by decide), su_cm (k := 8) (j := 7) (by decide), su_su (k := 7), su_cm (k := 9) (j := 8) (by decide), su_su (k := 8), su_su (k := 9)])) ?_
      have f_3 : (pC4 (σ 5) t n (kiC (σ 5) t S.2.1) S).2.1 ≤ t := pC4_le hi
      refine r_blk (blk' := wX cs h (su (su (su (su σ 3 ((eC1 (σ 5) t n S).2.2)) 7 (fun _ => nI (tkK (σ 5) t (eC1 (σ 5) t n S).2.1))) 8 (fun _ => nI (tkF (σ 5) t (eC1 (σ 5) t n S).2.1))) 9 (fun _ => nI (tkT (σ 5) t (eC1 (σ 5) t n S).2.1)))) (by rw [show (eC1 (σ 5) t n S) = (pC4 (σ 5) t n (kiC (σ 5) t S.2.1) S) from hec] <;> rfl) ?_
      have le_4 : (eC1 (σ 5) t n S).2.1 ≤ t := eC1_le hi
      refine r_eqi (y := bI ((eC1 (σ 5) t n S).1 = false)) (by rw [hec]) ?_
      refine r_istore_n (pc := 35) C [(2, .int (bI ((eC1 (σ 5) t n S).1 = false))), (1, .int (laC (σ 5) t S.2.1)), (0, .ref (h 33))] dX3_readEntry_35 rfl (by decide) rfl ?_
      refine r_iload_n (pc := 36) C 0 dX3_readEntry_36 rfl rfl ?_
      refine r_if_eq (pc := 37) C 49 dX3_readEntry_37 (by decide) (fun c_5 => ?_) (fun c_5 => ?_)
      · skip
        have c_5 := bI_0.mp c_5
        have hph : (itC (σ 5) t n S) = (true, (eC1 (σ 5) t n S).2) := ic_w c_5
        have hrz : ¬ (itC (σ 5) t n S).1 = false := by rw [hph]; simp
        refine r_iconst (pc := 49) C 0 dX3_readEntry_49 (by decide) ?_
        exact r_iret (pc := 50) C hr hlk dX3_readEntry_50 rfl (bI_f hrz) (by rw [hph] <;> rfl)
      · skip
        have c_5 := bI_n.mp c_5
        have hw1 := c_5
        refine r_aload_n (pc := 40) C 2 dX3_readEntry_40 rfl rfl ?_
        refine r_bipush (pc := 41) C 59 dX3_readEntry_41 (by decide) ?_
        refine rc_Vi (pc := 43) C (t_X3_isByte' l ad D cs h (su (su (su (su σ 3 ((eC1 (σ 5) t n S).2.2)) 7 (fun _ => nI (tkK (σ 5) t (eC1 (σ 5) t n S).2.1))) 8 (fun _ => nI (tkF (σ 5) t (eC1 (σ 5) t n S).2.1))) 9 (fun _ => nI (tkT (σ 5) t (eC1 (σ 5) t n S).2.1))) pre post (σ 5) (((((su_nn (by decide)).trans (su_nn (by decide))).trans (su_nn (by decide))).trans (su_nn (by decide)))) (σ 6) (((((su_nn (by decide)).trans (su_nn (by decide))).trans (su_nn (by decide))).trans (su_nn (by decide)))) (fun _ => nI (tkK (σ 5) t (eC1 (σ 5) t n S).2.1)) (((su_nn (by decide)).trans (su_nn (by decide))).trans su_at) (fun _ => nI (tkF (σ 5) t (eC1 (σ 5) t n S).2.1)) ((su_nn (by decide)).trans su_at) (fun _ => nI (tkT (σ 5) t (eC1 (σ 5) t n S).2.1)) (su_at) t (eC1 (σ 5) t n S).2.1 hT ht hb le_4 rfl rfl rfl) mv_X3_isByte ml_RX3_59 rfl ⟨Nat.le_of_ble_eq_true rfl, Nat.le_of_ble_eq_true rfl⟩ ⟨rfl, rfl⟩ (q0 := 33) rfl rfl rfl rfl rfl rfl (Nat.le_of_ble_eq_true rfl) dX3_readEntry_43 ?_
        refine r_if_ne (pc := 46) C 51 dX3_readEntry_46 (by decide) (fun c_6 => ?_) (fun c_6 => ?_)
        · skip
          have c_6 := bI_n.mp c_6
          have hph : (itC (σ 5) t n S) = _ := ic_t hw1 c_6
          have hrz : (itC (σ 5) t n S).1 = false := by rw [hph]
          refine r_aload_n (pc := 51) C 2 dX3_readEntry_51 rfl rfl ?_
          refine rc_Vv (pc := 52) C (t_X3_readWord' l ad D cs h (su (su (su (su σ 3 ((eC1 (σ 5) t n S).2.2)) 7 (fun _ => nI (tkK (σ 5) t (eC1 (σ 5) t n S).2.1))) 8 (fun _ => nI (tkF (σ 5) t (eC1 (σ 5) t n S).2.1))) 9 (fun _ => nI (tkT (σ 5) t (eC1 (σ 5) t n S).2.1))) pre post (σ 5) (((((su_nn (by decide)).trans (su_nn (by decide))).trans (su_nn (by decide))).trans (su_nn (by decide)))) (σ 6) (((((su_nn (by decide)).trans (su_nn (by decide))).trans (su_nn (by decide))).trans (su_nn (by decide)))) (fun _ => nI (tkT (σ 5) t (eC1 (σ 5) t n S).2.1)) (su_at) t (tkT (σ 5) t (eC1 (σ 5) t n S).2.1) hT ht hb rfl (tkT_le le_4).2) mv_X3_readWord ml_RX3_32 rfl ⟨Nat.le_of_ble_eq_true rfl, Nat.le_of_ble_eq_true rfl⟩ ⟨rfl, rfl⟩ (q0 := 33) rfl rfl rfl rfl rfl rfl (Nat.le_of_ble_eq_true rfl) dX3_readEntry_52 ?_
          refine r_blk (blk' := wX cs h (su (su (su (su σ 3 ((eC1 (σ 5) t n S).2.2)) 7 (fun _ => nI (tkK (σ 5) t (tkT (σ 5) t (eC1 (σ 5) t n S).2.1)))) 8 (fun _ => nI (tkF (σ 5) t (tkT (σ 5) t (eC1 (σ 5) t n S).2.1)))) 9 (fun _ => nI (tkT (σ 5) t (tkT (σ 5) t (eC1 (σ 5) t n S).2.1))))) (congrArg (wX cs h) (by rw [su_cm (k := 9) (j := 7) (by decide), su_cm (k := 8) (j := 7) (by decide), su_su (k := 7), su_cm (k := 9) (j := 8) (by decide), su_su (k := 8), su_su (k := 9)])) ?_
          refine r_blk (blk' := wX cs h (su (su (su (su σ 3 ((false, tkT (σ 5) t (eC1 (σ 5) t n S).2.1, (eC1 (σ 5) t n S).2.2).2.2)) 7 (fun _ => nI (tkK (σ 5) t (false, tkT (σ 5) t (eC1 (σ 5) t n S).2.1, (eC1 (σ 5) t n S).2.2).2.1))) 8 (fun _ => nI (tkF (σ 5) t (false, tkT (σ 5) t (eC1 (σ 5) t n S).2.1, (eC1 (σ 5) t n S).2.2).2.1))) 9 (fun _ => nI (tkT (σ 5) t (false, tkT (σ 5) t (eC1 (σ 5) t n S).2.1, (eC1 (σ 5) t n S).2.2).2.1)))) rfl ?_
          refine r_iconst (pc := 55) C 1 dX3_readEntry_55 (by decide) ?_
          exact r_iret (pc := 56) C hr hlk dX3_readEntry_56 rfl (bI_t hrz) (by rw [hph] <;> rfl)
        · skip
          have c_6 := bI_0.mp c_6
          have hph : (itC (σ 5) t n S) = (true, (eC1 (σ 5) t n S).2) := ic_f (Bool.not_eq_true _ ▸ c_6)
          have hrz : ¬ (itC (σ 5) t n S).1 = false := by rw [hph]; simp
          refine r_iconst (pc := 49) C 0 dX3_readEntry_49 (by decide) ?_
          exact r_iret (pc := 50) C hr hlk dX3_readEntry_50 rfl (bI_f hrz) (by rw [hph] <;> rfl)
    · skip
      obtain ⟨a, ha, e_a⟩ := lc_nat c_2
      have hec := ec_l (n := n) c_2 ha e_a
      refine r_lv (lv' := [(1, .int (nI a)), (0, .ref (h 33))]) (by rw [e_a]) ?_
      refine r_aload_n (pc := 19) C 1 dX3_readEntry_19 rfl rfl ?_
      refine r_iload_n (pc := 20) C 0 dX3_readEntry_20 rfl rfl ?_
      refine rc_Vi (pc := 21) C (t_X3_readLaw' l ad D cs h (su (su (su (su σ 3 S.2.2) 7 (fun _ => nI (tkK (σ 5) t S.2.1))) 8 (fun _ => nI (tkF (σ 5) t S.2.1))) 9 (fun _ => nI (tkT (σ 5) t S.2.1))) pre post S.2.2 ((((su_nn (by decide)).trans (su_nn (by decide))).trans (su_nn (by decide))).trans su_at) (σ 5) (((((su_nn (by decide)).trans (su_nn (by decide))).trans (su_nn (by decide))).trans (su_nn (by decide)))) (σ 6) (((((su_nn (by decide)).trans (su_nn (by decide))).trans (su_nn (by decide))).trans (su_nn (by decide)))) (fun _ => nI (tkK (σ 5) t S.2.1)) (((su_nn (by decide)).trans (su_nn (by decide))).trans su_at) (fun _ => nI (tkF (σ 5) t S.2.1)) ((su_nn (by decide)).trans su_at) (fun _ => nI (tkT (σ 5) t S.2.1)) (su_at) t a S hT ht hb hi hw rfl rfl rfl rfl (by omega)) mv_X3_readLaw ml_RX3_49 rfl ⟨Nat.le_of_ble_eq_true rfl, Nat.le_of_ble_eq_true rfl⟩ ⟨rfl, rfl⟩ (q0 := 33) rfl rfl rfl rfl rfl rfl (Nat.le_of_ble_eq_true rfl) dX3_readEntry_21 ?_
      refine r_blk (blk' := wX cs h (su (su (su (su σ 3 ((ntS (σ 5) t (4 + a) (tbl1.getD a 0) (nxS (σ 5) t S)).2.2)) 7 (fun _ => nI (tkK (σ 5) t (ntS (σ 5) t (4 + a) (tbl1.getD a 0) (nxS (σ 5) t S)).2.1))) 8 (fun _ => nI (tkF (σ 5) t (ntS (σ 5) t (4 + a) (tbl1.getD a 0) (nxS (σ 5) t S)).2.1))) 9 (fun _ => nI (tkT (σ 5) t (ntS (σ 5) t (4 + a) (tbl1.getD a 0) (nxS (σ 5) t S)).2.1)))) (congrArg (wX cs h) (by rw [su_cm (k := 9) (j := 3) (by decide), su_cm (k := 8) (j := 3) (by decide), su_cm (k := 7) (j := 3) (by decide), su_su (k := 3), su_cm (k := 9) (j := 7) (by decide), su_cm (k := 8) (j := 7) (by decide), su_su (k := 7), su_cm (k := 9) (j := 8) (by decide), su_su (k := 8), su_su (k := 9)])) ?_
      have f_7 : (ntS (σ 5) t (4 + a) (tbl1.getD a 0) (nxS (σ 5) t S)).2.1 ≤ t := ntS_le (nxS_le hi)
      refine r_goto (pc := 24) C 35 dX3_readEntry_24 (by decide) ?_
      refine r_blk (blk' := wX cs h (su (su (su (su σ 3 ((eC1 (σ 5) t n S).2.2)) 7 (fun _ => nI (tkK (σ 5) t (eC1 (σ 5) t n S).2.1))) 8 (fun _ => nI (tkF (σ 5) t (eC1 (σ 5) t n S).2.1))) 9 (fun _ => nI (tkT (σ 5) t (eC1 (σ 5) t n S).2.1)))) (by rw [show (eC1 (σ 5) t n S) = (ntS (σ 5) t (4 + a) (tbl1.getD a 0) (nxS (σ 5) t S)) from hec] <;> rfl) ?_
      have le_8 : (eC1 (σ 5) t n S).2.1 ≤ t := eC1_le hi
      refine r_eqi (y := bI ((eC1 (σ 5) t n S).1 = false)) (by rw [hec]) ?_
      refine r_istore_n (pc := 35) C [(2, .int (bI ((eC1 (σ 5) t n S).1 = false))), (1, .int (nI a)), (0, .ref (h 33))] dX3_readEntry_35 rfl (by decide) rfl ?_
      refine r_iload_n (pc := 36) C 0 dX3_readEntry_36 rfl rfl ?_
      refine r_if_eq (pc := 37) C 49 dX3_readEntry_37 (by decide) (fun c_9 => ?_) (fun c_9 => ?_)
      · skip
        have c_9 := bI_0.mp c_9
        have hph : (itC (σ 5) t n S) = (true, (eC1 (σ 5) t n S).2) := ic_w c_9
        have hrz : ¬ (itC (σ 5) t n S).1 = false := by rw [hph]; simp
        refine r_iconst (pc := 49) C 0 dX3_readEntry_49 (by decide) ?_
        exact r_iret (pc := 50) C hr hlk dX3_readEntry_50 rfl (bI_f hrz) (by rw [hph] <;> rfl)
      · skip
        have c_9 := bI_n.mp c_9
        have hw1 := c_9
        refine r_aload_n (pc := 40) C 2 dX3_readEntry_40 rfl rfl ?_
        refine r_bipush (pc := 41) C 59 dX3_readEntry_41 (by decide) ?_
        refine rc_Vi (pc := 43) C (t_X3_isByte' l ad D cs h (su (su (su (su σ 3 ((eC1 (σ 5) t n S).2.2)) 7 (fun _ => nI (tkK (σ 5) t (eC1 (σ 5) t n S).2.1))) 8 (fun _ => nI (tkF (σ 5) t (eC1 (σ 5) t n S).2.1))) 9 (fun _ => nI (tkT (σ 5) t (eC1 (σ 5) t n S).2.1))) pre post (σ 5) (((((su_nn (by decide)).trans (su_nn (by decide))).trans (su_nn (by decide))).trans (su_nn (by decide)))) (σ 6) (((((su_nn (by decide)).trans (su_nn (by decide))).trans (su_nn (by decide))).trans (su_nn (by decide)))) (fun _ => nI (tkK (σ 5) t (eC1 (σ 5) t n S).2.1)) (((su_nn (by decide)).trans (su_nn (by decide))).trans su_at) (fun _ => nI (tkF (σ 5) t (eC1 (σ 5) t n S).2.1)) ((su_nn (by decide)).trans su_at) (fun _ => nI (tkT (σ 5) t (eC1 (σ 5) t n S).2.1)) (su_at) t (eC1 (σ 5) t n S).2.1 hT ht hb le_8 rfl rfl rfl) mv_X3_isByte ml_RX3_59 rfl ⟨Nat.le_of_ble_eq_true rfl, Nat.le_of_ble_eq_true rfl⟩ ⟨rfl, rfl⟩ (q0 := 33) rfl rfl rfl rfl rfl rfl (Nat.le_of_ble_eq_true rfl) dX3_readEntry_43 ?_
        refine r_if_ne (pc := 46) C 51 dX3_readEntry_46 (by decide) (fun c_10 => ?_) (fun c_10 => ?_)
        · skip
          have c_10 := bI_n.mp c_10
          have hph : (itC (σ 5) t n S) = _ := ic_t hw1 c_10
          have hrz : (itC (σ 5) t n S).1 = false := by rw [hph]
          refine r_aload_n (pc := 51) C 2 dX3_readEntry_51 rfl rfl ?_
          refine rc_Vv (pc := 52) C (t_X3_readWord' l ad D cs h (su (su (su (su σ 3 ((eC1 (σ 5) t n S).2.2)) 7 (fun _ => nI (tkK (σ 5) t (eC1 (σ 5) t n S).2.1))) 8 (fun _ => nI (tkF (σ 5) t (eC1 (σ 5) t n S).2.1))) 9 (fun _ => nI (tkT (σ 5) t (eC1 (σ 5) t n S).2.1))) pre post (σ 5) (((((su_nn (by decide)).trans (su_nn (by decide))).trans (su_nn (by decide))).trans (su_nn (by decide)))) (σ 6) (((((su_nn (by decide)).trans (su_nn (by decide))).trans (su_nn (by decide))).trans (su_nn (by decide)))) (fun _ => nI (tkT (σ 5) t (eC1 (σ 5) t n S).2.1)) (su_at) t (tkT (σ 5) t (eC1 (σ 5) t n S).2.1) hT ht hb rfl (tkT_le le_8).2) mv_X3_readWord ml_RX3_32 rfl ⟨Nat.le_of_ble_eq_true rfl, Nat.le_of_ble_eq_true rfl⟩ ⟨rfl, rfl⟩ (q0 := 33) rfl rfl rfl rfl rfl rfl (Nat.le_of_ble_eq_true rfl) dX3_readEntry_52 ?_
          refine r_blk (blk' := wX cs h (su (su (su (su σ 3 ((eC1 (σ 5) t n S).2.2)) 7 (fun _ => nI (tkK (σ 5) t (tkT (σ 5) t (eC1 (σ 5) t n S).2.1)))) 8 (fun _ => nI (tkF (σ 5) t (tkT (σ 5) t (eC1 (σ 5) t n S).2.1)))) 9 (fun _ => nI (tkT (σ 5) t (tkT (σ 5) t (eC1 (σ 5) t n S).2.1))))) (congrArg (wX cs h) (by rw [su_cm (k := 9) (j := 7) (by decide), su_cm (k := 8) (j := 7) (by decide), su_su (k := 7), su_cm (k := 9) (j := 8) (by decide), su_su (k := 8), su_su (k := 9)])) ?_
          refine r_blk (blk' := wX cs h (su (su (su (su σ 3 ((false, tkT (σ 5) t (eC1 (σ 5) t n S).2.1, (eC1 (σ 5) t n S).2.2).2.2)) 7 (fun _ => nI (tkK (σ 5) t (false, tkT (σ 5) t (eC1 (σ 5) t n S).2.1, (eC1 (σ 5) t n S).2.2).2.1))) 8 (fun _ => nI (tkF (σ 5) t (false, tkT (σ 5) t (eC1 (σ 5) t n S).2.1, (eC1 (σ 5) t n S).2.2).2.1))) 9 (fun _ => nI (tkT (σ 5) t (false, tkT (σ 5) t (eC1 (σ 5) t n S).2.1, (eC1 (σ 5) t n S).2.2).2.1)))) rfl ?_
          refine r_iconst (pc := 55) C 1 dX3_readEntry_55 (by decide) ?_
          exact r_iret (pc := 56) C hr hlk dX3_readEntry_56 rfl (bI_t hrz) (by rw [hph] <;> rfl)
        · skip
          have c_10 := bI_0.mp c_10
          have hph : (itC (σ 5) t n S) = (true, (eC1 (σ 5) t n S).2) := ic_f (Bool.not_eq_true _ ▸ c_10)
          have hrz : ¬ (itC (σ 5) t n S).1 = false := by rw [hph]; simp
          refine r_iconst (pc := 49) C 0 dX3_readEntry_49 (by decide) ?_
          exact r_iret (pc := 50) C hr hlk dX3_readEntry_50 rfl (bI_f hrz) (by rw [hph] <;> rfl)
  · skip
    have c_1 := nIc_eq_f (a := (tkK (σ 5) t S.2.1)) (b := 1) (by omega) (by omega) c_1
    have hph : (itC (σ 5) t n S) = (true, S.2) := ic_no c_1
    have hrz : ¬ (itC (σ 5) t n S).1 = false := by rw [hph]; simp
    refine r_iconst (pc := 8) C 0 dX3_readEntry_8 (by decide) ?_
    exact r_iret (pc := 9) C hr hlk dX3_readEntry_9 rfl (bI_f hrz) (by rw [hph] <;> rfl)
theorem t_X3_readEntry' (l : Launch) (ad : Nat → Nat) (D : va_G) (cs : Nat → ClassId) (h : Nat → Nat) (σ : Nat → Nat → Int32) (pre post : va_W) (f3_ : Nat → Int32) (e3_ : σ 3 = f3_) (f5_ : Nat → Int32) (e5_ : σ 5 = f5_) (f6_ : Nat → Int32) (e6_ : σ 6 = f6_) (f7_ : Nat → Int32) (e7_ : σ 7 = f7_) (f8_ : Nat → Int32) (e8_ : σ 8 = f8_) (f9_ : Nat → Int32) (e9_ : σ 9 = f9_) (t : Nat) (n : Nat) (S : PS) (hT : f6_ 0 = nI t) (ht : t ≤ 200) (hb : ∀ j : Nat, j < t → 0 ≤ (f5_ j).toInt ∧ (f5_ j).toInt ≤ 255) (hi : S.2.1 ≤ t) (hw : S.1 = false) (h3 : f3_ = S.2.2) (h7 : f7_ 0 = nI (tkK (f5_) t S.2.1)) (h8 : f8_ 0 = nI (tkF (f5_) t S.2.1)) (h9 : f9_ 0 = nI (tkT (f5_) t S.2.1)) (hN : S.2.2 0 = nI n) (hn : n ≤ 8) : CTi l yX3_readEntry cX3_readEntry 3 .boolean ({ frames := 8, cells := 0, slots := 0, locals := 174 }) ad D (tysW cs) (pre ++ (wX cs h σ ++ post)) [.ref (h 33)] (bI ((itC (f5_) t n S).1 = false)) (pre ++ (wX cs h (su (su (su (su σ 3 ((itC (f5_) t n S).2.2)) 7 (fun _ => nI (tkK (f5_) t (itC (f5_) t n S).2.1))) 8 (fun _ => nI (tkF (f5_) t (itC (f5_) t n S).2.1))) 9 (fun _ => nI (tkT (f5_) t (itC (f5_) t n S).2.1))) ++ post)) := by
  subst e3_; subst e5_; subst e6_; subst e7_; subst e8_; subst e9_
  exact t_X3_readEntry l ad D cs h σ pre post t n S hT ht hb hi hw h3 h7 h8 h9 hN hn
theorem dX3_readText_0 : decode cX3_readText 0 = .ok (.aload_n 0, 1) := by decide +kernel
theorem dX3_readText_1 : decode cX3_readText 1 = .ok (.iconst 0, 1) := by decide +kernel
theorem dX3_readText_2 : decode cX3_readText 2 = .ok (.putfield 26, 3) := by decide +kernel
theorem dX3_readText_5 : decode cX3_readText 5 = .ok (.aload_n 0, 1) := by decide +kernel
theorem dX3_readText_6 : decode cX3_readText 6 = .ok (.getfield 12, 3) := by decide +kernel
theorem dX3_readText_9 : decode cX3_readText 9 = .ok (.invokevirtual 29, 3) := by decide +kernel
theorem dX3_readText_12 : decode cX3_readText 12 = .ok (.aload_n 0, 1) := by decide +kernel
theorem dX3_readText_13 : decode cX3_readText 13 = .ok (.invokevirtual 32, 3) := by decide +kernel
theorem dX3_readText_16 : decode cX3_readText 16 = .ok (.iconst 0, 1) := by decide +kernel
theorem dX3_readText_17 : decode cX3_readText 17 = .ok (.istore_n 1, 1) := by decide +kernel
theorem dX3_readText_18 : decode cX3_readText 18 = .ok (.iload_n 1, 1) := by decide +kernel
theorem dX3_readText_19 : decode cX3_readText 19 = .ok (.sipush 200, 3) := by decide +kernel
theorem dX3_readText_22 : decode cX3_readText 22 = .ok (.if_icmp .gt 28, 3) := by decide +kernel
theorem dX3_readText_25 : decode cX3_readText 25 = .ok (.aload_n 0, 1) := by decide +kernel
theorem dX3_readText_26 : decode cX3_readText 26 = .ok (.getfield 35, 3) := by decide +kernel
theorem dX3_readText_29 : decode cX3_readText 29 = .ok (.ifCond .eq 21, 3) := by decide +kernel
theorem dX3_readText_32 : decode cX3_readText 32 = .ok (.aload_n 0, 1) := by decide +kernel
theorem dX3_readText_33 : decode cX3_readText 33 = .ok (.invokevirtual 38, 3) := by decide +kernel
theorem dX3_readText_36 : decode cX3_readText 36 = .ok (.ifCond .ne 8, 3) := by decide +kernel
theorem dX3_readText_39 : decode cX3_readText 39 = .ok (.aload_n 0, 1) := by decide +kernel
theorem dX3_readText_40 : decode cX3_readText 40 = .ok (.getfield 42, 3) := by decide +kernel
theorem dX3_readText_43 : decode cX3_readText 43 = .ok (.ireturn, 1) := by decide +kernel
theorem dX3_readText_44 : decode cX3_readText 44 = .ok (.iinc 1 1, 3) := by decide +kernel
theorem dX3_readText_47 : decode cX3_readText 47 = .ok (.goto (-29), 3) := by decide +kernel
theorem dX3_readText_50 : decode cX3_readText 50 = .ok (.iconst (-1), 1) := by decide +kernel
theorem dX3_readText_51 : decode cX3_readText 51 = .ok (.ireturn, 1) := by decide +kernel
set_option maxHeartbeats 400000 in
set_option maxRecDepth 20000 in
theorem t_X3_readText (l : Launch) (ad : Nat → Nat) (D : va_G) (cs : Nat → ClassId) (h : Nat → Nat) (σ : Nat → Nat → Int32) (pre post : va_W) (t : Nat) (hT : σ 6 0 = nI t) (ht : t ≤ 200) (hb : ∀ j : Nat, j < t → 0 ≤ (σ 5 j).toInt ∧ (σ 5 j).toInt ≤ 255) : CTi l yX3_readText cX3_readText 2 .int ({ frames := 9, cells := 0, slots := 0, locals := 196 }) ad D (tysW cs) (pre ++ (wX cs h σ ++ post)) [.ref (h 33)] (if (mCS (σ 5) t (bfF (σ 3))).1 = true then nI (tkF (σ 5) t (mCS (σ 5) t (bfF (σ 3))).2.1) else -1) (pre ++ (wX cs h (su (su (su (su σ 3 ((mCS (σ 5) t (bfF (σ 3))).2.2)) 7 (fun _ => nI (tkK (σ 5) t (mCS (σ 5) t (bfF (σ 3))).2.1))) 8 (fun _ => nI (tkF (σ 5) t (mCS (σ 5) t (bfF (σ 3))).2.1))) 9 (fun _ => nI (tkT (σ 5) t (mCS (σ 5) t (bfF (σ 3))).2.1))) ++ post)) := by
  refine CTi.of (lv0 := [(0, .ref (h 33))]) (by decide) rfl (Nat.le_of_ble_eq_true rfl) (fun p e s m args below meth c A C hr hlk => ?_)
  have C : Cx p s m args c cX3_readText 2 RX3 ad D (tysW cs) A := C
  refine r_aload_n (pc := 0) C 0 dX3_readText_0 rfl rfl ?_
  refine r_iconst (pc := 1) C 0 dX3_readText_1 (by decide) ?_
  refine xp_t_next (pc := 2) C fl_RX3_26 dX3_readText_2 ?_
  refine r_aload_n (pc := 5) C 0 dX3_readText_5 rfl rfl ?_
  refine xg_t_told (pc := 6) C fl_RX3_12 dX3_readText_6 ?_
  refine rc_Vv (pc := 9) C (t_X0_becomeAsAtFirst' l ad D cs (fun j => h (25 + j)) (fun _ => σ 3) (pre ++ xA_3 cs h (su σ 9 (fun _ => 0))) (xC_3 cs h (su σ 9 (fun _ => 0)) ++ post) (σ 3) rfl  ) mv_X0_becomeAsAtFirst ml_RX3_29 rfl ⟨Nat.le_of_ble_eq_true rfl, Nat.le_of_ble_eq_true rfl⟩ ⟨rfl, rfl⟩ (q0 := 0) rfl rfl rfl fx_3 (bx_3 _) rfl (Nat.le_of_ble_eq_true rfl) dX3_readText_9 ?_
  refine r_blk (blk' := wX cs h (su (su σ 3 (bfF (σ 3))) 9 (fun _ => 0))) (congrArg (wX cs h) (by rw [su_cm (k := 9) (j := 3) (by decide)])) ?_
  refine r_aload_n (pc := 12) C 0 dX3_readText_12 rfl rfl ?_
  refine rc_Vv (pc := 13) C (t_X3_readWord' l ad D cs h (su (su σ 3 (bfF (σ 3))) 9 (fun _ => 0)) pre post (σ 5) (((su_nn (by decide)).trans (su_nn (by decide)))) (σ 6) (((su_nn (by decide)).trans (su_nn (by decide)))) (fun _ => 0) (su_at) t 0 hT ht hb rfl (by omega)) mv_X3_readWord ml_RX3_32 rfl ⟨Nat.le_of_ble_eq_true rfl, Nat.le_of_ble_eq_true rfl⟩ ⟨rfl, rfl⟩ (q0 := 33) rfl rfl rfl rfl rfl rfl (Nat.le_of_ble_eq_true rfl) dX3_readText_13 ?_
  refine r_blk (blk' := wX cs h (su (su (su (su σ 3 (bfF (σ 3))) 7 (fun _ => nI (tkK (σ 5) t 0))) 8 (fun _ => nI (tkF (σ 5) t 0))) 9 (fun _ => nI (tkT (σ 5) t 0)))) (congrArg (wX cs h) (by rw [su_cm (k := 9) (j := 7) (by decide), su_cm (k := 9) (j := 8) (by decide), su_su (k := 9)])) ?_
  refine r_iconst (pc := 16) C 0 dX3_readText_16 (by decide) ?_
  refine r_istore_n (pc := 17) C [(1, .int 0), (0, .ref (h 33))] dX3_readText_17 rfl (by decide) rfl ?_
  refine r_blk (blk' := wX cs h (su (su (su (su σ 3 ((iCN (σ 5) t (bfF (σ 3)) 0).2.2)) 7 (fun _ => nI (tkK (σ 5) t (iCN (σ 5) t (bfF (σ 3)) 0).2.1))) 8 (fun _ => nI (tkF (σ 5) t (iCN (σ 5) t (bfF (σ 3)) 0).2.1))) 9 (fun _ => nI (tkT (σ 5) t (iCN (σ 5) t (bfF (σ 3)) 0).2.1)))) rfl ?_
  refine r_pick (lv' := [(0, .ref (h 33)), (1, .int 0)]) [1, 0] rfl ?_
  refine r_loop (blkf := fun d => wX cs h (su (su (su (su σ 3 ((iCN (σ 5) t (bfF (σ 3)) d).2.2)) 7 (fun _ => nI (tkK (σ 5) t (iCN (σ 5) t (bfF (σ 3)) d).2.1))) 8 (fun _ => nI (tkF (σ 5) t (iCN (σ 5) t (bfF (σ 3)) d).2.1))) 9 (fun _ => nI (tkT (σ 5) t (iCN (σ 5) t (bfF (σ 3)) d).2.1)))) (lvf := fun d => [(0, .ref (h 33)), (1, .int (nI d))]) (fun d => MCI (σ 5) t (bfF (σ 3)) d) 201 0 (by omega) (mc_0 (bfF_0 _)) (fun d h_d hx ih_18 => ?_)
  have hi := hx.2.1
  have hw := hx.2.2.1
  have hk_ := tkK_le (σ 5) t (iCN (σ 5) t (bfF (σ 3)) d).2.1
  have hf_ := tkF_le (T := σ 5) hi
  have hd_ := mc_le hx
  show VX p l e _ s m args below meth c _ D A 2 pre (wX cs h (su (su (su (su σ 3 ((iCN (σ 5) t (bfF (σ 3)) d).2.2)) 7 (fun _ => nI (tkK (σ 5) t (iCN (σ 5) t (bfF (σ 3)) d).2.1))) 8 (fun _ => nI (tkF (σ 5) t (iCN (σ 5) t (bfF (σ 3)) d).2.1))) 9 (fun _ => nI (tkT (σ 5) t (iCN (σ 5) t (bfF (σ 3)) d).2.1)))) post 18 [(0, .ref (h 33)), (1, .int (nI d))] []
  refine r_iload_n (pc := 18) C 1 dX3_readText_18 rfl rfl ?_
  refine r_sipush (pc := 19) C 200 dX3_readText_19 (by decide) ?_
  refine r_icmp_gt (pc := 22) C 50 dX3_readText_22 (by decide) (fun c_1 => ?_) (fun c_1 => ?_)
  · skip
    have c_1 := nIc_gt_t (a := d) (b := 200) (by omega) (by omega) c_1
    obtain rfl : d = 201 := by omega
    exact absurd hd_ (by omega)
  · skip
    have c_1 := nIc_gt_f (a := d) (b := 200) (by omega) (by omega) c_1
    refine r_aload_n (pc := 25) C 0 dX3_readText_25 rfl rfl ?_
    refine xg_t_word (pc := 26) C fl_RX3_35 dX3_readText_26 (nI (tkK (σ 5) t (iCN (σ 5) t (bfF (σ 3)) d).2.1)) (congrFun (((su_nn (by decide)).trans (su_nn (by decide))).trans su_at) 0) ?_
    refine r_if_eq (pc := 29) C 50 dX3_readText_29 (by decide) (fun c_2 => ?_) (fun c_2 => ?_)
    · skip
      have c_2 := nIc_eq_t (a := (tkK (σ 5) t (iCN (σ 5) t (bfF (σ 3)) d).2.1)) (b := 0) (by omega) (by omega) c_2
      have hph : (mCS (σ 5) t (bfF (σ 3))) = (iCN (σ 5) t (bfF (σ 3)) d) := mc_e hx c_2
      have hrz : (mCS (σ 5) t (bfF (σ 3))).1 = false := by rw [hph]; exact hw
      refine r_iconst (pc := 50) C (-1) dX3_readText_50 (by decide) ?_
      exact r_iret (pc := 51) C hr hlk dX3_readText_51 rfl (by rw [if_neg (by rw [hrz]; decide)]) (by rw [hph] <;> rfl)
    · skip
      have c_2 := nIc_eq_f (a := (tkK (σ 5) t (iCN (σ 5) t (bfF (σ 3)) d).2.1)) (b := 0) (by omega) (by omega) c_2
      have hk0 := c_2
      obtain ⟨n, hn, hN⟩ := hx.2.2.2.2
      refine r_aload_n (pc := 32) C 0 dX3_readText_32 rfl rfl ?_
      refine rc_Vi (pc := 33) C (t_X3_readEntry' l ad D cs h (su (su (su (su σ 3 ((iCN (σ 5) t (bfF (σ 3)) d).2.2)) 7 (fun _ => nI (tkK (σ 5) t (iCN (σ 5) t (bfF (σ 3)) d).2.1))) 8 (fun _ => nI (tkF (σ 5) t (iCN (σ 5) t (bfF (σ 3)) d).2.1))) 9 (fun _ => nI (tkT (σ 5) t (iCN (σ 5) t (bfF (σ 3)) d).2.1))) pre post ((iCN (σ 5) t (bfF (σ 3)) d).2.2) ((((su_nn (by decide)).trans (su_nn (by decide))).trans (su_nn (by decide))).trans su_at) (σ 5) (((((su_nn (by decide)).trans (su_nn (by decide))).trans (su_nn (by decide))).trans (su_nn (by decide)))) (σ 6) (((((su_nn (by decide)).trans (su_nn (by decide))).trans (su_nn (by decide))).trans (su_nn (by decide)))) (fun _ => nI (tkK (σ 5) t (iCN (σ 5) t (bfF (σ 3)) d).2.1)) (((su_nn (by decide)).trans (su_nn (by decide))).trans su_at) (fun _ => nI (tkF (σ 5) t (iCN (σ 5) t (bfF (σ 3)) d).2.1)) ((su_nn (by decide)).trans su_at) (fun _ => nI (tkT (σ 5) t (iCN (σ 5) t (bfF (σ 3)) d).2.1)) (su_at) t n (iCN (σ 5) t (bfF (σ 3)) d) hT ht hb hi hw rfl rfl rfl rfl hN hn) mv_X3_readEntry ml_RX3_38 rfl ⟨Nat.le_of_ble_eq_true rfl, Nat.le_of_ble_eq_true rfl⟩ ⟨rfl, rfl⟩ (q0 := 33) rfl rfl rfl rfl rfl rfl (Nat.le_of_ble_eq_true rfl) dX3_readText_33 ?_
      refine r_blk (blk' := wX cs h (su (su (su (su σ 3 ((itC (σ 5) t n (iCN (σ 5) t (bfF (σ 3)) d)).2.2)) 7 (fun _ => nI (tkK (σ 5) t (itC (σ 5) t n (iCN (σ 5) t (bfF (σ 3)) d)).2.1))) 8 (fun _ => nI (tkF (σ 5) t (itC (σ 5) t n (iCN (σ 5) t (bfF (σ 3)) d)).2.1))) 9 (fun _ => nI (tkT (σ 5) t (itC (σ 5) t n (iCN (σ 5) t (bfF (σ 3)) d)).2.1)))) (congrArg (wX cs h) (by rw [su_cm (k := 9) (j := 3) (by decide), su_cm (k := 8) (j := 3) (by decide), su_cm (k := 7) (j := 3) (by decide), su_su (k := 3), su_cm (k := 9) (j := 7) (by decide), su_cm (k := 8) (j := 7) (by decide), su_su (k := 7), su_cm (k := 9) (j := 8) (by decide), su_su (k := 8), su_su (k := 9)])) ?_
      have f_3 : (itC (σ 5) t n (iCN (σ 5) t (bfF (σ 3)) d)).2.1 ≤ t := itC_le hi
      refine r_blk (blk' := wX cs h (su (su (su (su σ 3 ((iCN (σ 5) t (bfF (σ 3)) (d + 1)).2.2)) 7 (fun _ => nI (tkK (σ 5) t (iCN (σ 5) t (bfF (σ 3)) (d + 1)).2.1))) 8 (fun _ => nI (tkF (σ 5) t (iCN (σ 5) t (bfF (σ 3)) (d + 1)).2.1))) 9 (fun _ => nI (tkT (σ 5) t (iCN (σ 5) t (bfF (σ 3)) (d + 1)).2.1)))) (by rw [show (iCN (σ 5) t (bfF (σ 3)) (d + 1)) = (itC (σ 5) t n (iCN (σ 5) t (bfF (σ 3)) d)) from by show itC _ _ ((iCN (σ 5) t (bfF (σ 3)) d).2.2 0).toNatClampNeg _ = _; rw [hN, nI_clamp (by omega)]] <;> rfl) ?_
      have hKK : itC (σ 5) t n (iCN (σ 5) t (bfF (σ 3)) d) = (iCN (σ 5) t (bfF (σ 3)) (d + 1)) := by show _ = itC _ _ ((iCN (σ 5) t (bfF (σ 3)) d).2.2 0).toNatClampNeg _; rw [hN, nI_clamp (by omega)]
      refine r_eqi (y := bI ((iCN (σ 5) t (bfF (σ 3)) (d + 1)).1 = false)) (by rw [hKK]) ?_
      refine r_if_ne (pc := 36) C 44 dX3_readText_36 (by decide) (fun c_4 => ?_) (fun c_4 => ?_)
      · skip
        have c_4 := bI_n.mp c_4
        have hw1 := c_4
        refine r_iinc (pc := 44) C (nI (d + 1)) 1 [(1, .int (nI (d + 1))), (0, .ref (h 33))] dX3_readText_44 rfl (nI_1 _) (by decide) rfl ?_
        refine r_goto (pc := 47) C 18 dX3_readText_47 (by decide) ?_
        refine r_pick (lv' := [(0, .ref (h 33)), (1, .int (nI (d + 1)))]) [1, 0] rfl ?_
        exact ih_18 (by omega) (mc_s hx hk0 hw1)
      · skip
        have c_4 := bI_0.mp c_4
        have hph : (mCS (σ 5) t (bfF (σ 3))) = (iCN (σ 5) t (bfF (σ 3)) (d + 1)) := mc_w hx hk0 c_4
        have hrz : ¬ (mCS (σ 5) t (bfF (σ 3))).1 = false := by rw [hph]; exact c_4
        refine r_aload_n (pc := 39) C 0 dX3_readText_39 rfl rfl ?_
        refine xg_t_wordStart (pc := 40) C fl_RX3_42 dX3_readText_40 (nI (tkF (σ 5) t (iCN (σ 5) t (bfF (σ 3)) (d + 1)).2.1)) (congrFun ((su_nn (by decide)).trans su_at) 0) ?_
        exact r_iret (pc := 43) C hr hlk dX3_readText_43 rfl (by rw [if_pos (by simpa using hrz), hph]) (by rw [hph] <;> rfl)
theorem t_X3_readText' (l : Launch) (ad : Nat → Nat) (D : va_G) (cs : Nat → ClassId) (h : Nat → Nat) (σ : Nat → Nat → Int32) (pre post : va_W) (f3_ : Nat → Int32) (e3_ : σ 3 = f3_) (f5_ : Nat → Int32) (e5_ : σ 5 = f5_) (f6_ : Nat → Int32) (e6_ : σ 6 = f6_) (t : Nat) (hT : f6_ 0 = nI t) (ht : t ≤ 200) (hb : ∀ j : Nat, j < t → 0 ≤ (f5_ j).toInt ∧ (f5_ j).toInt ≤ 255) : CTi l yX3_readText cX3_readText 2 .int ({ frames := 9, cells := 0, slots := 0, locals := 196 }) ad D (tysW cs) (pre ++ (wX cs h σ ++ post)) [.ref (h 33)] (if (mCS (f5_) t (bfF (f3_))).1 = true then nI (tkF (f5_) t (mCS (f5_) t (bfF (f3_))).2.1) else -1) (pre ++ (wX cs h (su (su (su (su σ 3 ((mCS (f5_) t (bfF (f3_))).2.2)) 7 (fun _ => nI (tkK (f5_) t (mCS (f5_) t (bfF (f3_))).2.1))) 8 (fun _ => nI (tkF (f5_) t (mCS (f5_) t (bfF (f3_))).2.1))) 9 (fun _ => nI (tkT (f5_) t (mCS (f5_) t (bfF (f3_))).2.1))) ++ post)) := by
  subst e3_; subst e5_; subst e6_
  exact t_X3_readText l ad D cs h σ pre post t hT ht hb
