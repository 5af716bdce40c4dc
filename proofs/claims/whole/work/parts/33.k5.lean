theorem ms_J6_bitCount_0f7a4 : MS yJ6_bitCount_0f7a4 cJ6_bitCount_0f7a4 1 (some .int) 1 := ⟨st_yJ6_bitCount_0f7a4, in_RJ6, co_yJ6_bitCount_0f7a4, by decide, by decide, by decide +kernel⟩
theorem dJ6_bitCount_0f7a4_0 : decode cJ6_bitCount_0f7a4 0 = .ok (.iload_n 0, 1) := by decide +kernel
theorem dJ6_bitCount_0f7a4_1 : decode cJ6_bitCount_0f7a4 1 = .ok (.iload_n 0, 1) := by decide +kernel
theorem dJ6_bitCount_0f7a4_2 : decode cJ6_bitCount_0f7a4 2 = .ok (.iconst 1, 1) := by decide +kernel
theorem dJ6_bitCount_0f7a4_3 : decode cJ6_bitCount_0f7a4 3 = .ok (.iushr, 1) := by decide +kernel
theorem dJ6_bitCount_0f7a4_4 : decode cJ6_bitCount_0f7a4 4 = .ok (.ldc_w 265, 3) := by decide +kernel
theorem dJ6_bitCount_0f7a4_7 : decode cJ6_bitCount_0f7a4 7 = .ok (.iand, 1) := by decide +kernel
theorem dJ6_bitCount_0f7a4_8 : decode cJ6_bitCount_0f7a4 8 = .ok (.isub, 1) := by decide +kernel
theorem dJ6_bitCount_0f7a4_9 : decode cJ6_bitCount_0f7a4 9 = .ok (.istore_n 0, 1) := by decide +kernel
theorem dJ6_bitCount_0f7a4_10 : decode cJ6_bitCount_0f7a4 10 = .ok (.iload_n 0, 1) := by decide +kernel
theorem dJ6_bitCount_0f7a4_11 : decode cJ6_bitCount_0f7a4 11 = .ok (.ldc_w 266, 3) := by decide +kernel
theorem dJ6_bitCount_0f7a4_14 : decode cJ6_bitCount_0f7a4 14 = .ok (.iand, 1) := by decide +kernel
theorem dJ6_bitCount_0f7a4_15 : decode cJ6_bitCount_0f7a4 15 = .ok (.iload_n 0, 1) := by decide +kernel
theorem dJ6_bitCount_0f7a4_16 : decode cJ6_bitCount_0f7a4 16 = .ok (.iconst 2, 1) := by decide +kernel
theorem dJ6_bitCount_0f7a4_17 : decode cJ6_bitCount_0f7a4 17 = .ok (.iushr, 1) := by decide +kernel
theorem dJ6_bitCount_0f7a4_18 : decode cJ6_bitCount_0f7a4 18 = .ok (.ldc_w 266, 3) := by decide +kernel
theorem dJ6_bitCount_0f7a4_21 : decode cJ6_bitCount_0f7a4 21 = .ok (.iand, 1) := by decide +kernel
theorem dJ6_bitCount_0f7a4_22 : decode cJ6_bitCount_0f7a4 22 = .ok (.iadd, 1) := by decide +kernel
theorem dJ6_bitCount_0f7a4_23 : decode cJ6_bitCount_0f7a4 23 = .ok (.istore_n 0, 1) := by decide +kernel
theorem dJ6_bitCount_0f7a4_24 : decode cJ6_bitCount_0f7a4 24 = .ok (.iload_n 0, 1) := by decide +kernel
theorem dJ6_bitCount_0f7a4_25 : decode cJ6_bitCount_0f7a4 25 = .ok (.iload_n 0, 1) := by decide +kernel
theorem dJ6_bitCount_0f7a4_26 : decode cJ6_bitCount_0f7a4 26 = .ok (.iconst 4, 1) := by decide +kernel
theorem dJ6_bitCount_0f7a4_27 : decode cJ6_bitCount_0f7a4 27 = .ok (.iushr, 1) := by decide +kernel
theorem dJ6_bitCount_0f7a4_28 : decode cJ6_bitCount_0f7a4 28 = .ok (.iadd, 1) := by decide +kernel
theorem dJ6_bitCount_0f7a4_29 : decode cJ6_bitCount_0f7a4 29 = .ok (.ldc_w 267, 3) := by decide +kernel
theorem dJ6_bitCount_0f7a4_32 : decode cJ6_bitCount_0f7a4 32 = .ok (.iand, 1) := by decide +kernel
theorem dJ6_bitCount_0f7a4_33 : decode cJ6_bitCount_0f7a4 33 = .ok (.istore_n 0, 1) := by decide +kernel
theorem dJ6_bitCount_0f7a4_34 : decode cJ6_bitCount_0f7a4 34 = .ok (.iload_n 0, 1) := by decide +kernel
theorem dJ6_bitCount_0f7a4_35 : decode cJ6_bitCount_0f7a4 35 = .ok (.iload_n 0, 1) := by decide +kernel
theorem dJ6_bitCount_0f7a4_36 : decode cJ6_bitCount_0f7a4 36 = .ok (.bipush 8, 2) := by decide +kernel
theorem dJ6_bitCount_0f7a4_38 : decode cJ6_bitCount_0f7a4 38 = .ok (.iushr, 1) := by decide +kernel
theorem dJ6_bitCount_0f7a4_39 : decode cJ6_bitCount_0f7a4 39 = .ok (.iadd, 1) := by decide +kernel
theorem dJ6_bitCount_0f7a4_40 : decode cJ6_bitCount_0f7a4 40 = .ok (.istore_n 0, 1) := by decide +kernel
theorem dJ6_bitCount_0f7a4_41 : decode cJ6_bitCount_0f7a4 41 = .ok (.iload_n 0, 1) := by decide +kernel
theorem dJ6_bitCount_0f7a4_42 : decode cJ6_bitCount_0f7a4 42 = .ok (.iload_n 0, 1) := by decide +kernel
theorem dJ6_bitCount_0f7a4_43 : decode cJ6_bitCount_0f7a4 43 = .ok (.bipush 16, 2) := by decide +kernel
theorem dJ6_bitCount_0f7a4_45 : decode cJ6_bitCount_0f7a4 45 = .ok (.iushr, 1) := by decide +kernel
theorem dJ6_bitCount_0f7a4_46 : decode cJ6_bitCount_0f7a4 46 = .ok (.iadd, 1) := by decide +kernel
theorem dJ6_bitCount_0f7a4_47 : decode cJ6_bitCount_0f7a4 47 = .ok (.istore_n 0, 1) := by decide +kernel
theorem dJ6_bitCount_0f7a4_48 : decode cJ6_bitCount_0f7a4 48 = .ok (.iload_n 0, 1) := by decide +kernel
theorem dJ6_bitCount_0f7a4_49 : decode cJ6_bitCount_0f7a4 49 = .ok (.bipush 63, 2) := by decide +kernel
theorem dJ6_bitCount_0f7a4_51 : decode cJ6_bitCount_0f7a4 51 = .ok (.iand, 1) := by decide +kernel
theorem dJ6_bitCount_0f7a4_52 : decode cJ6_bitCount_0f7a4 52 = .ok (.ireturn, 1) := by decide +kernel
set_option maxHeartbeats 400000 in
set_option maxRecDepth 20000 in
theorem t_J6_bitCount_0f7a4 (l : Launch) (ad : Nat → Nat) (D : va_G) (tys : List (ClassId × FieldType)) (bk : va_W) (pre post : va_W) (w : Nat) (hw : w < 256) : CTi l yJ6_bitCount_0f7a4 cJ6_bitCount_0f7a4 1 .int ({ frames := 0, cells := 0, slots := 0, locals := 0 }) ad D tys (pre ++ (bk ++ post)) [.int (nI w)] (nI (pcN w)) (pre ++ (bk ++ post)) := by
  refine CTi.of (lv0 := [(0, .int (nI w))]) (by decide) rfl (Nat.le_of_ble_eq_true rfl) (fun p e s m args below meth c A C hr hlk => ?_)
  have C : Cx p s m args c cJ6_bitCount_0f7a4 1 RJ6 ad D tys A := C
  refine r_iload_n (pc := 0) C 0 dJ6_bitCount_0f7a4_0 rfl rfl ?_
  refine r_iload_n (pc := 1) C 0 dJ6_bitCount_0f7a4_1 rfl rfl ?_
  refine r_iconst (pc := 2) C 1 dJ6_bitCount_0f7a4_2 (by decide) ?_
  refine r_iushr (pc := 3) C dJ6_bitCount_0f7a4_3 ?_
  refine r_ldcw (pc := 4) C dJ6_bitCount_0f7a4_4 cn_RJ6_265 ?_
  refine r_iand (pc := 7) C dJ6_bitCount_0f7a4_7 ?_
  refine r_isub (pc := 8) C dJ6_bitCount_0f7a4_8 ?_
  refine r_eqi (y := bcA (nI w)) (rfl) ?_
  refine r_istore_n (pc := 9) C [(0, .int (bcA (nI w)))] dJ6_bitCount_0f7a4_9 rfl (by decide) rfl ?_
  refine r_iload_n (pc := 10) C 0 dJ6_bitCount_0f7a4_10 rfl rfl ?_
  refine r_ldcw (pc := 11) C dJ6_bitCount_0f7a4_11 cn_RJ6_266 ?_
  refine r_iand (pc := 14) C dJ6_bitCount_0f7a4_14 ?_
  refine r_iload_n (pc := 15) C 0 dJ6_bitCount_0f7a4_15 rfl rfl ?_
  refine r_iconst (pc := 16) C 2 dJ6_bitCount_0f7a4_16 (by decide) ?_
  refine r_iushr (pc := 17) C dJ6_bitCount_0f7a4_17 ?_
  refine r_ldcw (pc := 18) C dJ6_bitCount_0f7a4_18 cn_RJ6_266 ?_
  refine r_iand (pc := 21) C dJ6_bitCount_0f7a4_21 ?_
  refine r_iadd (pc := 22) C dJ6_bitCount_0f7a4_22 ?_
  refine r_eqi (y := bcB (bcA (nI w))) (rfl) ?_
  refine r_istore_n (pc := 23) C [(0, .int (bcB (bcA (nI w))))] dJ6_bitCount_0f7a4_23 rfl (by decide) rfl ?_
  refine r_iload_n (pc := 24) C 0 dJ6_bitCount_0f7a4_24 rfl rfl ?_
  refine r_iload_n (pc := 25) C 0 dJ6_bitCount_0f7a4_25 rfl rfl ?_
  refine r_iconst (pc := 26) C 4 dJ6_bitCount_0f7a4_26 (by decide) ?_
  refine r_iushr (pc := 27) C dJ6_bitCount_0f7a4_27 ?_
  refine r_iadd (pc := 28) C dJ6_bitCount_0f7a4_28 ?_
  refine r_ldcw (pc := 29) C dJ6_bitCount_0f7a4_29 cn_RJ6_267 ?_
  refine r_iand (pc := 32) C dJ6_bitCount_0f7a4_32 ?_
  refine r_eqi (y := bcC (bcB (bcA (nI w)))) (rfl) ?_
  refine r_istore_n (pc := 33) C [(0, .int (bcC (bcB (bcA (nI w)))))] dJ6_bitCount_0f7a4_33 rfl (by decide) rfl ?_
  refine r_iload_n (pc := 34) C 0 dJ6_bitCount_0f7a4_34 rfl rfl ?_
  refine r_iload_n (pc := 35) C 0 dJ6_bitCount_0f7a4_35 rfl rfl ?_
  refine r_bipush (pc := 36) C 8 dJ6_bitCount_0f7a4_36 (by decide) ?_
  refine r_iushr (pc := 38) C dJ6_bitCount_0f7a4_38 ?_
  refine r_iadd (pc := 39) C dJ6_bitCount_0f7a4_39 ?_
  refine r_eqi (y := bcD (bcC (bcB (bcA (nI w))))) (rfl) ?_
  refine r_istore_n (pc := 40) C [(0, .int (bcD (bcC (bcB (bcA (nI w))))))] dJ6_bitCount_0f7a4_40 rfl (by decide) rfl ?_
  refine r_iload_n (pc := 41) C 0 dJ6_bitCount_0f7a4_41 rfl rfl ?_
  refine r_iload_n (pc := 42) C 0 dJ6_bitCount_0f7a4_42 rfl rfl ?_
  refine r_bipush (pc := 43) C 16 dJ6_bitCount_0f7a4_43 (by decide) ?_
  refine r_iushr (pc := 45) C dJ6_bitCount_0f7a4_45 ?_
  refine r_iadd (pc := 46) C dJ6_bitCount_0f7a4_46 ?_
  refine r_eqi (y := bcE (bcD (bcC (bcB (bcA (nI w)))))) (rfl) ?_
  refine r_istore_n (pc := 47) C [(0, .int (bcE (bcD (bcC (bcB (bcA (nI w)))))))] dJ6_bitCount_0f7a4_47 rfl (by decide) rfl ?_
  refine r_iload_n (pc := 48) C 0 dJ6_bitCount_0f7a4_48 rfl rfl ?_
  refine r_bipush (pc := 49) C 63 dJ6_bitCount_0f7a4_49 (by decide) ?_
  refine r_iand (pc := 51) C dJ6_bitCount_0f7a4_51 ?_
  exact r_iret (pc := 52) C hr hlk dJ6_bitCount_0f7a4_52 rfl (bc_all w hw) rfl
theorem dX5_fairPairs_0 : decode cX5_fairPairs 0 = .ok (.iconst 0, 1) := by decide +kernel
theorem dX5_fairPairs_1 : decode cX5_fairPairs 1 = .ok (.istore_n 1, 1) := by decide +kernel
theorem dX5_fairPairs_2 : decode cX5_fairPairs 2 = .ok (.iconst 0, 1) := by decide +kernel
theorem dX5_fairPairs_3 : decode cX5_fairPairs 3 = .ok (.istore_n 2, 1) := by decide +kernel
theorem dX5_fairPairs_4 : decode cX5_fairPairs 4 = .ok (.iload_n 2, 1) := by decide +kernel
theorem dX5_fairPairs_5 : decode cX5_fairPairs 5 = .ok (.aload_n 0, 1) := by decide +kernel
theorem dX5_fairPairs_6 : decode cX5_fairPairs 6 = .ok (.getfield 10, 3) := by decide +kernel
theorem dX5_fairPairs_9 : decode cX5_fairPairs 9 = .ok (.getfield 88, 3) := by decide +kernel
theorem dX5_fairPairs_12 : decode cX5_fairPairs 12 = .ok (.if_icmp .ge 23, 3) := by decide +kernel
theorem dX5_fairPairs_15 : decode cX5_fairPairs 15 = .ok (.iload_n 1, 1) := by decide +kernel
theorem dX5_fairPairs_16 : decode cX5_fairPairs 16 = .ok (.aload_n 0, 1) := by decide +kernel
theorem dX5_fairPairs_17 : decode cX5_fairPairs 17 = .ok (.getfield 10, 3) := by decide +kernel
theorem dX5_fairPairs_20 : decode cX5_fairPairs 20 = .ok (.iload_n 2, 1) := by decide +kernel
theorem dX5_fairPairs_21 : decode cX5_fairPairs 21 = .ok (.invokevirtual 184, 3) := by decide +kernel
theorem dX5_fairPairs_24 : decode cX5_fairPairs 24 = .ok (.invokestatic 287, 3) := by decide +kernel
theorem dX5_fairPairs_27 : decode cX5_fairPairs 27 = .ok (.iadd, 1) := by decide +kernel
theorem dX5_fairPairs_28 : decode cX5_fairPairs 28 = .ok (.istore_n 1, 1) := by decide +kernel
theorem dX5_fairPairs_29 : decode cX5_fairPairs 29 = .ok (.iinc 2 1, 3) := by decide +kernel
theorem dX5_fairPairs_32 : decode cX5_fairPairs 32 = .ok (.goto (-28), 3) := by decide +kernel
theorem dX5_fairPairs_35 : decode cX5_fairPairs 35 = .ok (.iload_n 1, 1) := by decide +kernel
theorem dX5_fairPairs_36 : decode cX5_fairPairs 36 = .ok (.iconst 2, 1) := by decide +kernel
theorem dX5_fairPairs_37 : decode cX5_fairPairs 37 = .ok (.idiv, 1) := by decide +kernel
theorem dX5_fairPairs_38 : decode cX5_fairPairs 38 = .ok (.ireturn, 1) := by decide +kernel
set_option maxHeartbeats 400000 in
set_option maxRecDepth 20000 in
theorem t_X5_fairPairs (l : Launch) (ad : Nat → Nat) (D : va_G) (cs : Nat → ClassId) (h : Nat → Nat) (σ : Nat → Nat → Int32) (pre post : va_W) (n : Nat) (hN : σ 0 0 = nI n) (hn : n ≤ 8) (hR : rgM n (σ 0)) : CTi l yX5_fairPairs cX5_fairPairs 3 .int ({ frames := 4, cells := 0, slots := 0, locals := 91 }) ad D (tysW cs) (pre ++ (wX cs h σ ++ post)) [.ref (h 0)] (nI (f2S n (σ 0) n / 2)) (pre ++ (wX cs h σ ++ post)) := by
  refine CTi.of (lv0 := [(0, .ref (h 0))]) (by decide) rfl (Nat.le_of_ble_eq_true rfl) (fun p e s m args below meth c A C hr hlk => ?_)
  have C : Cx p s m args c cX5_fairPairs 3 RX5 ad D (tysW cs) A := C
  refine r_iconst (pc := 0) C 0 dX5_fairPairs_0 (by decide) ?_
  refine r_istore_n (pc := 1) C [(1, .int 0), (0, .ref (h 0))] dX5_fairPairs_1 rfl (by decide) rfl ?_
  refine r_iconst (pc := 2) C 0 dX5_fairPairs_2 (by decide) ?_
  refine r_istore_n (pc := 3) C [(2, .int 0), (1, .int 0), (0, .ref (h 0))] dX5_fairPairs_3 rfl (by decide) rfl ?_
  refine r_pick (lv' := [(0, .ref (h 0)), (1, .int 0), (2, .int 0)]) [2, 1, 0] rfl ?_
  refine r_lv (lv' := [(0, .ref (h 0)), (1, .int (nI (f2S n (σ 0) 0))), (2, .int 0)]) (rfl) ?_
  refine r_loop (blkf := fun i => wX cs h σ) (lvf := fun i => [(0, .ref (h 0)), (1, .int (nI (f2S n (σ 0) i))), (2, .int (nI i))]) (fun i => True) n 0 (by omega) (trivial) (fun i h_i _ ih_4 => ?_)
  show VX p l e _ s m args below meth c _ D A 3 pre (wX cs h σ) post 4 [(0, .ref (h 0)), (1, .int (nI (f2S n (σ 0) i))), (2, .int (nI i))] []
  refine r_iload_n (pc := 4) C 2 dX5_fairPairs_4 rfl rfl ?_
  refine r_aload_n (pc := 5) C 0 dX5_fairPairs_5 rfl rfl ?_
  refine xg_now (pc := 6) C fl_RX5_10 dX5_fairPairs_6 ?_
  refine xg_count_0 (pc := 9) C fl_RX5_88 dX5_fairPairs_9 (σ 0 0) rfl ?_
  refine r_eqi (y := nI n) (hN) ?_
  refine r_icmp_ge (pc := 12) C 35 dX5_fairPairs_12 (by decide) (fun c_1 => ?_) (fun c_1 => ?_)
  · skip
    have c_1 := nIc_ge_t (a := i) (b := n) (by omega) (by omega) c_1
    obtain rfl : n = i := by omega
    refine r_iload_n (pc := 35) C 1 dX5_fairPairs_35 rfl rfl ?_
    have h_2 := f2S_le (m := σ 0) hn n
    refine r_iconst (pc := 36) C 2 dX5_fairPairs_36 (by decide) ?_
    refine r_idiv (pc := 37) C dX5_fairPairs_37 (by decide) ?_
    refine r_eqi (y := nI (f2S n (σ 0) n / 2)) (pk_div (by omega) (by decide) (by decide)) ?_
    exact r_iret (pc := 38) C hr hlk dX5_fairPairs_38 rfl rfl rfl
  · skip
    have c_1 := nIc_ge_f (a := i) (b := n) (by omega) (by omega) c_1
    refine r_iload_n (pc := 15) C 1 dX5_fairPairs_15 rfl rfl ?_
    refine r_aload_n (pc := 16) C 0 dX5_fairPairs_16 rfl rfl ?_
    refine xg_now (pc := 17) C fl_RX5_10 dX5_fairPairs_17 ?_
    refine r_iload_n (pc := 20) C 2 dX5_fairPairs_20 rfl rfl ?_
    refine rc_Vi (pc := 21) C (t_X0_setFairWith' l ad D cs (fun j => h (1 + j)) (fun _ => σ 0) (pre ++ xA_0 cs h σ) (xC_0 cs h σ ++ post) (σ 0) rfl n i hN hn (by omega) hR) mv_X0_setFairWith ml_RX5_184 rfl ⟨Nat.le_of_ble_eq_true rfl, Nat.le_of_ble_eq_true rfl⟩ ⟨rfl, rfl⟩ (q0 := 0) rfl rfl rfl fx_0 fx_0.symm rfl (Nat.le_of_ble_eq_true rfl) dX5_fairPairs_21 ?_
    refine r_eqi (y := nI (fairN (σ 0) i n)) (fairF_N _ _ _ (by omega)) ?_
    have h_f := fairN_256 (m := σ 0) (o := i) hn
    refine rc_Si (pc := 24) C (t_J6_bitCount_0f7a4 l ad D (tysW cs) (wX cs h σ) pre post  (fairN (σ 0) i n) (by omega)) ms_J6_bitCount_0f7a4 ml_RX5_287 rfl ⟨Nat.le_of_ble_eq_true rfl, Nat.le_of_ble_eq_true rfl⟩ ⟨rfl, rfl⟩ rfl rfl rfl (Nat.le_of_ble_eq_true rfl) dX5_fairPairs_24 ?_
    refine r_iadd (pc := 27) C dX5_fairPairs_27 ?_
    refine r_eqi (y := nI (f2S n (σ 0) i + pcN (fairN (σ 0) i n))) (nI_add (f2S n (σ 0) i) (pcN (fairN (σ 0) i n))) ?_
    refine r_istore_n (pc := 28) C [(1, .int (nI (f2S n (σ 0) i + pcN (fairN (σ 0) i n)))), (0, .ref (h 0)), (2, .int (nI i))] dX5_fairPairs_28 rfl (by decide) rfl ?_
    refine r_iinc (pc := 29) C (nI (i + 1)) 2 [(2, .int (nI (i + 1))), (1, .int (nI (f2S n (σ 0) i + pcN (fairN (σ 0) i n)))), (0, .ref (h 0))] dX5_fairPairs_29 rfl (nI_1 _) (by decide) rfl ?_
    refine r_goto (pc := 32) C 4 dX5_fairPairs_32 (by decide) ?_
    refine r_pick (lv' := [(0, .ref (h 0)), (1, .int (nI (f2S n (σ 0) i + pcN (fairN (σ 0) i n)))), (2, .int (nI (i + 1)))]) [2, 1, 0] rfl ?_
    refine r_lv (lv' := [(0, .ref (h 0)), (1, .int (nI (f2S n (σ 0) (i + 1)))), (2, .int (nI (i + 1)))]) (rfl) ?_
    exact ih_4 (by omega) (trivial)
theorem t_X5_fairPairs' (l : Launch) (ad : Nat → Nat) (D : va_G) (cs : Nat → ClassId) (h : Nat → Nat) (σ : Nat → Nat → Int32) (pre post : va_W) (f0_ : Nat → Int32) (e0_ : σ 0 = f0_) (n : Nat) (hN : f0_ 0 = nI n) (hn : n ≤ 8) (hR : rgM n f0_) : CTi l yX5_fairPairs cX5_fairPairs 3 .int ({ frames := 4, cells := 0, slots := 0, locals := 91 }) ad D (tysW cs) (pre ++ (wX cs h σ ++ post)) [.ref (h 0)] (nI (f2S n f0_ n / 2)) (pre ++ (wX cs h σ ++ post)) := by
  subst e0_
  exact t_X5_fairPairs l ad D cs h σ pre post n hN hn hR
theorem dX5_state_0 : decode cX5_state 0 = .ok (.iload_n 1, 1) := by decide +kernel
theorem dX5_state_1 : decode cX5_state 1 = .ok (.tableswitch 86 0 5 #[39, 47, 55, 64, 72, 81], 39) := by decide +kernel
theorem dX5_state_40 : decode cX5_state 40 = .ok (.aload_n 0, 1) := by decide +kernel
theorem dX5_state_41 : decode cX5_state 41 = .ok (.getfield 10, 3) := by decide +kernel
theorem dX5_state_44 : decode cX5_state 44 = .ok (.getfield 155, 3) := by decide +kernel
theorem dX5_state_47 : decode cX5_state 47 = .ok (.ireturn, 1) := by decide +kernel
theorem dX5_state_48 : decode cX5_state 48 = .ok (.aload_n 0, 1) := by decide +kernel
theorem dX5_state_49 : decode cX5_state 49 = .ok (.getfield 10, 3) := by decide +kernel
theorem dX5_state_52 : decode cX5_state 52 = .ok (.getfield 158, 3) := by decide +kernel
theorem dX5_state_55 : decode cX5_state 55 = .ok (.ireturn, 1) := by decide +kernel
theorem dX5_state_56 : decode cX5_state 56 = .ok (.aload_n 0, 1) := by decide +kernel
theorem dX5_state_57 : decode cX5_state 57 = .ok (.getfield 10, 3) := by decide +kernel
theorem dX5_state_60 : decode cX5_state 60 = .ok (.iconst 4, 1) := by decide +kernel
theorem dX5_state_61 : decode cX5_state 61 = .ok (.invokevirtual 146, 3) := by decide +kernel
theorem dX5_state_64 : decode cX5_state 64 = .ok (.ireturn, 1) := by decide +kernel
theorem dX5_state_65 : decode cX5_state 65 = .ok (.aload_n 0, 1) := by decide +kernel
theorem dX5_state_66 : decode cX5_state 66 = .ok (.getfield 10, 3) := by decide +kernel
theorem dX5_state_69 : decode cX5_state 69 = .ok (.invokevirtual 161, 3) := by decide +kernel
theorem dX5_state_72 : decode cX5_state 72 = .ok (.ireturn, 1) := by decide +kernel
theorem dX5_state_73 : decode cX5_state 73 = .ok (.aload_n 0, 1) := by decide +kernel
theorem dX5_state_74 : decode cX5_state 74 = .ok (.getfield 10, 3) := by decide +kernel
theorem dX5_state_77 : decode cX5_state 77 = .ok (.iconst 3, 1) := by decide +kernel
theorem dX5_state_78 : decode cX5_state 78 = .ok (.invokevirtual 146, 3) := by decide +kernel
theorem dX5_state_81 : decode cX5_state 81 = .ok (.ireturn, 1) := by decide +kernel
theorem dX5_state_82 : decode cX5_state 82 = .ok (.aload_n 0, 1) := by decide +kernel
theorem dX5_state_83 : decode cX5_state 83 = .ok (.invokevirtual 164, 3) := by decide +kernel
theorem dX5_state_86 : decode cX5_state 86 = .ok (.ireturn, 1) := by decide +kernel
theorem dX5_state_87 : decode cX5_state 87 = .ok (.iconst (-1), 1) := by decide +kernel
theorem dX5_state_88 : decode cX5_state 88 = .ok (.ireturn, 1) := by decide +kernel
set_option maxHeartbeats 400000 in
set_option maxRecDepth 20000 in
theorem t_X5_state (l : Launch) (ad : Nat → Nat) (D : va_G) (cs : Nat → ClassId) (h : Nat → Nat) (σ : Nat → Nat → Int32) (pre post : va_W) (n : Nat) (w : Int32) (hN : σ 0 0 = nI n) (hn : n ≤ 8) (hR : rgM n (σ 0)) : CTi l yX5_state cX5_state 2 .int ({ frames := 5, cells := 0, slots := 0, locals := 113 }) ad D (tysW cs) (pre ++ (wX cs h σ ++ post)) [.ref (h 0), .int w] (stB n (σ 0) w) (pre ++ (wX cs h σ ++ post)) := by
  refine CTi.of (lv0 := [(0, .ref (h 0)), (1, .int w)]) (by decide) rfl (Nat.le_of_ble_eq_true rfl) (fun p e s m args below meth c A C hr hlk => ?_)
  have C : Cx p s m args c cX5_state 2 RX5 ad D (tysW cs) A := C
  refine r_iload_n (pc := 0) C 1 dX5_state_0 rfl rfl ?_
  have w_1 := sw_cases w 0 5 (by decide)
  rcases w_1 with w_1 | w_1
  · skip
    refine r_tableOut (pc := 1) C 39 87 dX5_state_1 w_1 (by decide) ?_
    have w_1_0 : ¬ w = 0 := fun q => by rw [q] at w_1; revert w_1; decide
    have w_1_1 : ¬ w = 1 := fun q => by rw [q] at w_1; revert w_1; decide
    have w_1_2 : ¬ w = 2 := fun q => by rw [q] at w_1; revert w_1; decide
    have w_1_3 : ¬ w = 3 := fun q => by rw [q] at w_1; revert w_1; decide
    have w_1_4 : ¬ w = 4 := fun q => by rw [q] at w_1; revert w_1; decide
    have w_1_5 : ¬ w = 5 := fun q => by rw [q] at w_1; revert w_1; decide
    refine r_iconst (pc := 87) C (-1) dX5_state_87 (by decide) ?_
    exact r_iret (pc := 88) C hr hlk dX5_state_88 rfl (by simp [stB, *]) rfl
  · obtain ⟨i_1, hi_1, w_1⟩ := w_1
    have hc_1 : i_1 = 0 ∨ i_1 = 1 ∨ i_1 = 2 ∨ i_1 = 3 ∨ i_1 = 4 ∨ i_1 = 5 := by omega
    rcases hc_1 with rfl | rfl | rfl | rfl | rfl | rfl
    · skip
      refine r_tableIn (pc := 1) C 39 40 dX5_state_1 (by rw [w_1]; decide) (by rw [w_1]; decide) (by rw [w_1]; rfl) (by decide) ?_
      have w_1 : w = 0 := Int32.toInt_inj.mp (by rw [w_1]; rfl)
      refine r_aload_n (pc := 40) C 0 dX5_state_40 rfl rfl ?_
      refine xg_now (pc := 41) C fl_RX5_10 dX5_state_41 ?_
      refine xg_dayNumber_0 (pc := 44) C fl_RX5_155 dX5_state_44 (σ 0 1) rfl ?_
      exact r_iret (pc := 47) C hr hlk dX5_state_47 rfl (by simp [stB, *]) rfl
    · skip
      refine r_tableIn (pc := 1) C 39 48 dX5_state_1 (by rw [w_1]; decide) (by rw [w_1]; decide) (by rw [w_1]; rfl) (by decide) ?_
      have w_1 : w = 1 := Int32.toInt_inj.mp (by rw [w_1]; rfl)
      refine r_aload_n (pc := 48) C 0 dX5_state_48 rfl rfl ?_
      refine xg_now (pc := 49) C fl_RX5_10 dX5_state_49 ?_
      refine xg_chest_0 (pc := 52) C fl_RX5_158 dX5_state_52 (σ 0 3) rfl ?_
      exact r_iret (pc := 55) C hr hlk dX5_state_55 rfl (by simp [stB, *]) rfl
    · skip
      refine r_tableIn (pc := 1) C 39 56 dX5_state_1 (by rw [w_1]; decide) (by rw [w_1]; decide) (by rw [w_1]; rfl) (by decide) ?_
      have w_1 : w = 2 := Int32.toInt_inj.mp (by rw [w_1]; rfl)
      refine r_aload_n (pc := 56) C 0 dX5_state_56 rfl rfl ?_
      refine xg_now (pc := 57) C fl_RX5_10 dX5_state_57 ?_
      refine r_iconst (pc := 60) C 4 dX5_state_60 (by decide) ?_
      refine rc_Vi (pc := 61) C (t_X0_sumOf' l ad D cs (fun j => h (1 + j)) (fun _ => σ 0) (pre ++ xA_0 cs h σ) (xC_0 cs h σ ++ post) (σ 0) rfl n 4 hN hn (by omega)) mv_X0_sumOf ml_RX5_146 rfl ⟨Nat.le_of_ble_eq_true rfl, Nat.le_of_ble_eq_true rfl⟩ ⟨rfl, rfl⟩ (q0 := 0) rfl rfl rfl fx_0 fx_0.symm rfl (Nat.le_of_ble_eq_true rfl) dX5_state_61 ?_
      exact r_iret (pc := 64) C hr hlk dX5_state_64 rfl (by simp [stB, *]) rfl
    · skip
      refine r_tableIn (pc := 1) C 39 65 dX5_state_1 (by rw [w_1]; decide) (by rw [w_1]; decide) (by rw [w_1]; rfl) (by decide) ?_
      have w_1 : w = 3 := Int32.toInt_inj.mp (by rw [w_1]; rfl)
      refine r_aload_n (pc := 65) C 0 dX5_state_65 rfl rfl ?_
      refine xg_now (pc := 66) C fl_RX5_10 dX5_state_66 ?_
      refine rc_Vi (pc := 69) C (t_X0_setOnSteps' l ad D cs (fun j => h (1 + j)) (fun _ => σ 0) (pre ++ xA_0 cs h σ) (xC_0 cs h σ ++ post) (σ 0) rfl n hN hn) mv_X0_setOnSteps ml_RX5_161 rfl ⟨Nat.le_of_ble_eq_true rfl, Nat.le_of_ble_eq_true rfl⟩ ⟨rfl, rfl⟩ (q0 := 0) rfl rfl rfl fx_0 fx_0.symm rfl (Nat.le_of_ble_eq_true rfl) dX5_state_69 ?_
      exact r_iret (pc := 72) C hr hlk dX5_state_72 rfl (by simp [stB, *]) rfl
    · skip
      refine r_tableIn (pc := 1) C 39 73 dX5_state_1 (by rw [w_1]; decide) (by rw [w_1]; decide) (by rw [w_1]; rfl) (by decide) ?_
      have w_1 : w = 4 := Int32.toInt_inj.mp (by rw [w_1]; rfl)
      refine r_aload_n (pc := 73) C 0 dX5_state_73 rfl rfl ?_
      refine xg_now (pc := 74) C fl_RX5_10 dX5_state_74 ?_
      refine r_iconst (pc := 77) C 3 dX5_state_77 (by decide) ?_
      refine rc_Vi (pc := 78) C (t_X0_sumOf' l ad D cs (fun j => h (1 + j)) (fun _ => σ 0) (pre ++ xA_0 cs h σ) (xC_0 cs h σ ++ post) (σ 0) rfl n 3 hN hn (by omega)) mv_X0_sumOf ml_RX5_146 rfl ⟨Nat.le_of_ble_eq_true rfl, Nat.le_of_ble_eq_true rfl⟩ ⟨rfl, rfl⟩ (q0 := 0) rfl rfl rfl fx_0 fx_0.symm rfl (Nat.le_of_ble_eq_true rfl) dX5_state_78 ?_
      exact r_iret (pc := 81) C hr hlk dX5_state_81 rfl (by simp [stB, *]) rfl
    · skip
      refine r_tableIn (pc := 1) C 39 82 dX5_state_1 (by rw [w_1]; decide) (by rw [w_1]; decide) (by rw [w_1]; rfl) (by decide) ?_
      have w_1 : w = 5 := Int32.toInt_inj.mp (by rw [w_1]; rfl)
      refine r_aload_n (pc := 82) C 0 dX5_state_82 rfl rfl ?_
      refine rc_Vi (pc := 83) C (t_X5_fairPairs' l ad D cs h σ pre post (σ 0) (rfl) n hN hn hR) mv_X5_fairPairs ml_RX5_164 rfl ⟨Nat.le_of_ble_eq_true rfl, Nat.le_of_ble_eq_true rfl⟩ ⟨rfl, rfl⟩ (q0 := 0) rfl rfl rfl rfl rfl rfl (Nat.le_of_ble_eq_true rfl) dX5_state_83 ?_
      exact r_iret (pc := 86) C hr hlk dX5_state_86 rfl (by simp [stB, *]) rfl
theorem t_X5_state' (l : Launch) (ad : Nat → Nat) (D : va_G) (cs : Nat → ClassId) (h : Nat → Nat) (σ : Nat → Nat → Int32) (pre post : va_W) (f0_ : Nat → Int32) (e0_ : σ 0 = f0_) (n : Nat) (w : Int32) (hN : f0_ 0 = nI n) (hn : n ≤ 8) (hR : rgM n f0_) : CTi l yX5_state cX5_state 2 .int ({ frames := 5, cells := 0, slots := 0, locals := 113 }) ad D (tysW cs) (pre ++ (wX cs h σ ++ post)) [.ref (h 0), .int w] (stB n f0_ w) (pre ++ (wX cs h σ ++ post)) := by
  subst e0_
  exact t_X5_state l ad D cs h σ pre post n w hN hn hR
theorem dX5_many_0 : decode cX5_many 0 = .ok (.iload_n 1, 1) := by decide +kernel
theorem dX5_many_1 : decode cX5_many 1 = .ok (.tableswitch 99 0 6 #[43, 51, 62, 70, 78, 83, 91], 43) := by decide +kernel
theorem dX5_many_44 : decode cX5_many 44 = .ok (.aload_n 0, 1) := by decide +kernel
theorem dX5_many_45 : decode cX5_many 45 = .ok (.getfield 10, 3) := by decide +kernel
theorem dX5_many_48 : decode cX5_many 48 = .ok (.getfield 88, 3) := by decide +kernel
theorem dX5_many_51 : decode cX5_many 51 = .ok (.ireturn, 1) := by decide +kernel
theorem dX5_many_52 : decode cX5_many 52 = .ok (.aload_n 0, 1) := by decide +kernel
theorem dX5_many_53 : decode cX5_many 53 = .ok (.getfield 10, 3) := by decide +kernel
theorem dX5_many_56 : decode cX5_many 56 = .ok (.invokevirtual 161, 3) := by decide +kernel
theorem dX5_many_59 : decode cX5_many 59 = .ok (.invokestatic 287, 3) := by decide +kernel
theorem dX5_many_62 : decode cX5_many 62 = .ok (.ireturn, 1) := by decide +kernel
theorem dX5_many_63 : decode cX5_many 63 = .ok (.aload_n 0, 1) := by decide +kernel
theorem dX5_many_64 : decode cX5_many 64 = .ok (.getfield 10, 3) := by decide +kernel
theorem dX5_many_67 : decode cX5_many 67 = .ok (.invokevirtual 292, 3) := by decide +kernel
theorem dX5_many_70 : decode cX5_many 70 = .ok (.ireturn, 1) := by decide +kernel
theorem dX5_many_71 : decode cX5_many 71 = .ok (.aload_n 0, 1) := by decide +kernel
theorem dX5_many_72 : decode cX5_many 72 = .ok (.getfield 10, 3) := by decide +kernel
theorem dX5_many_75 : decode cX5_many 75 = .ok (.invokevirtual 295, 3) := by decide +kernel
theorem dX5_many_78 : decode cX5_many 78 = .ok (.ireturn, 1) := by decide +kernel
theorem dX5_many_79 : decode cX5_many 79 = .ok (.aload_n 0, 1) := by decide +kernel
theorem dX5_many_80 : decode cX5_many 80 = .ok (.getfield 85, 3) := by decide +kernel
theorem dX5_many_83 : decode cX5_many 83 = .ok (.ireturn, 1) := by decide +kernel
theorem dX5_many_84 : decode cX5_many 84 = .ok (.aload_n 0, 1) := by decide +kernel
theorem dX5_many_85 : decode cX5_many 85 = .ok (.getfield 25, 3) := by decide +kernel
theorem dX5_many_88 : decode cX5_many 88 = .ok (.getfield 63, 3) := by decide +kernel
theorem dX5_many_91 : decode cX5_many 91 = .ok (.ireturn, 1) := by decide +kernel
theorem dX5_many_92 : decode cX5_many 92 = .ok (.aload_n 0, 1) := by decide +kernel
theorem dX5_many_93 : decode cX5_many 93 = .ok (.getfield 49, 3) := by decide +kernel
theorem dX5_many_96 : decode cX5_many 96 = .ok (.getfield 281, 3) := by decide +kernel
theorem dX5_many_99 : decode cX5_many 99 = .ok (.ireturn, 1) := by decide +kernel
theorem dX5_many_100 : decode cX5_many 100 = .ok (.iconst (-1), 1) := by decide +kernel
theorem dX5_many_101 : decode cX5_many 101 = .ok (.ireturn, 1) := by decide +kernel
set_option maxHeartbeats 400000 in
set_option maxRecDepth 20000 in
theorem t_X5_many (l : Launch) (ad : Nat → Nat) (D : va_G) (cs : Nat → ClassId) (h : Nat → Nat) (σ : Nat → Nat → Int32) (pre post : va_W) (n r y t : Nat) (w : Int32) (hN : σ 0 0 = nI n) (hn : n ≤ 8) (hR : rgM n (σ 0)) (hRr : σ 22 0 = nI r) (hY : σ 14 0 = nI y) (hy0 : y ≤ 10) (hT : σ 6 0 = nI t) : CTi l yX5_many cX5_many 2 .int ({ frames := 2, cells := 0, slots := 0, locals := 44 }) ad D (tysW cs) (pre ++ (wX cs h σ ++ post)) [.ref (h 0), .int w] (maA n y t r (σ 0) w) (pre ++ (wX cs h σ ++ post)) := by
  refine CTi.of (lv0 := [(0, .ref (h 0)), (1, .int w)]) (by decide) rfl (Nat.le_of_ble_eq_true rfl) (fun p e s m args below meth c A C hr hlk => ?_)
  have C : Cx p s m args c cX5_many 2 RX5 ad D (tysW cs) A := C
  refine r_iload_n (pc := 0) C 1 dX5_many_0 rfl rfl ?_
  have w_1 := sw_cases w 0 6 (by decide)
  rcases w_1 with w_1 | w_1
  · skip
    refine r_tableOut (pc := 1) C 43 100 dX5_many_1 w_1 (by decide) ?_
    have w_1_0 : ¬ w = 0 := fun q => by rw [q] at w_1; revert w_1; decide
    have w_1_1 : ¬ w = 1 := fun q => by rw [q] at w_1; revert w_1; decide
    have w_1_2 : ¬ w = 2 := fun q => by rw [q] at w_1; revert w_1; decide
    have w_1_3 : ¬ w = 3 := fun q => by rw [q] at w_1; revert w_1; decide
    have w_1_4 : ¬ w = 4 := fun q => by rw [q] at w_1; revert w_1; decide
    have w_1_5 : ¬ w = 5 := fun q => by rw [q] at w_1; revert w_1; decide
    have w_1_6 : ¬ w = 6 := fun q => by rw [q] at w_1; revert w_1; decide
    refine r_iconst (pc := 100) C (-1) dX5_many_100 (by decide) ?_
    exact r_iret (pc := 101) C hr hlk dX5_many_101 rfl (by simp [maA, *]) rfl
  · obtain ⟨i_1, hi_1, w_1⟩ := w_1
    have hc_1 : i_1 = 0 ∨ i_1 = 1 ∨ i_1 = 2 ∨ i_1 = 3 ∨ i_1 = 4 ∨ i_1 = 5 ∨ i_1 = 6 := by omega
    rcases hc_1 with rfl | rfl | rfl | rfl | rfl | rfl | rfl
    · skip
      refine r_tableIn (pc := 1) C 43 44 dX5_many_1 (by rw [w_1]; decide) (by rw [w_1]; decide) (by rw [w_1]; rfl) (by decide) ?_
      have w_1 : w = 0 := Int32.toInt_inj.mp (by rw [w_1]; rfl)
      refine r_aload_n (pc := 44) C 0 dX5_many_44 rfl rfl ?_
      refine xg_now (pc := 45) C fl_RX5_10 dX5_many_45 ?_
      refine xg_count_0 (pc := 48) C fl_RX5_88 dX5_many_48 (σ 0 0) rfl ?_
      refine r_eqi (y := nI n) (hN) ?_
      exact r_iret (pc := 51) C hr hlk dX5_many_51 rfl (by simp [maA, *]) rfl
    · skip
      refine r_tableIn (pc := 1) C 43 52 dX5_many_1 (by rw [w_1]; decide) (by rw [w_1]; decide) (by rw [w_1]; rfl) (by decide) ?_
      have w_1 : w = 1 := Int32.toInt_inj.mp (by rw [w_1]; rfl)
      refine r_aload_n (pc := 52) C 0 dX5_many_52 rfl rfl ?_
      refine xg_now (pc := 53) C fl_RX5_10 dX5_many_53 ?_
      refine rc_Vi (pc := 56) C (t_X0_setOnSteps' l ad D cs (fun j => h (1 + j)) (fun _ => σ 0) (pre ++ xA_0 cs h σ) (xC_0 cs h σ ++ post) (σ 0) rfl n hN hn) mv_X0_setOnSteps ml_RX5_161 rfl ⟨Nat.le_of_ble_eq_true rfl, Nat.le_of_ble_eq_true rfl⟩ ⟨rfl, rfl⟩ (q0 := 0) rfl rfl rfl fx_0 fx_0.symm rfl (Nat.le_of_ble_eq_true rfl) dX5_many_56 ?_
      refine r_eqi (y := nI (onN (σ 0) n)) (onF_N _ _ (by omega)) ?_
      have h_f := onN_256 (m := σ 0) hn
      refine rc_Si (pc := 59) C (t_J6_bitCount_0f7a4 l ad D (tysW cs) (wX cs h σ) pre post  (onN (σ 0) n) (by omega)) ms_J6_bitCount_0f7a4 ml_RX5_287 rfl ⟨Nat.le_of_ble_eq_true rfl, Nat.le_of_ble_eq_true rfl⟩ ⟨rfl, rfl⟩ rfl rfl rfl (Nat.le_of_ble_eq_true rfl) dX5_many_59 ?_
      exact r_iret (pc := 62) C hr hlk dX5_many_62 rfl (by simp [maA, *]) rfl
    · skip
      refine r_tableIn (pc := 1) C 43 63 dX5_many_1 (by rw [w_1]; decide) (by rw [w_1]; decide) (by rw [w_1]; rfl) (by decide) ?_
      have w_1 : w = 2 := Int32.toInt_inj.mp (by rw [w_1]; rfl)
      refine r_aload_n (pc := 63) C 0 dX5_many_63 rfl rfl ?_
      refine xg_now (pc := 64) C fl_RX5_10 dX5_many_64 ?_
      refine rc_Vi (pc := 67) C (t_X0_howManyHaveCoins' l ad D cs (fun j => h (1 + j)) (fun _ => σ 0) (pre ++ xA_0 cs h σ) (xC_0 cs h σ ++ post) (σ 0) rfl n hN hn) mv_X0_howManyHaveCoins ml_RX5_292 rfl ⟨Nat.le_of_ble_eq_true rfl, Nat.le_of_ble_eq_true rfl⟩ ⟨rfl, rfl⟩ (q0 := 0) rfl rfl rfl fx_0 fx_0.symm rfl (Nat.le_of_ble_eq_true rfl) dX5_many_67 ?_
      exact r_iret (pc := 70) C hr hlk dX5_many_70 rfl (by simp [maA, *]) rfl
    · skip
      refine r_tableIn (pc := 1) C 43 71 dX5_many_1 (by rw [w_1]; decide) (by rw [w_1]; decide) (by rw [w_1]; rfl) (by decide) ?_
      have w_1 : w = 3 := Int32.toInt_inj.mp (by rw [w_1]; rfl)
      refine r_aload_n (pc := 71) C 0 dX5_many_71 rfl rfl ?_
      refine xg_now (pc := 72) C fl_RX5_10 dX5_many_72 ?_
      refine rc_Vi (pc := 75) C (t_X0_howManyWear' l ad D cs (fun j => h (1 + j)) (fun _ => σ 0) (pre ++ xA_0 cs h σ) (xC_0 cs h σ ++ post) (σ 0) rfl n hN hn hR) mv_X0_howManyWear ml_RX5_295 rfl ⟨Nat.le_of_ble_eq_true rfl, Nat.le_of_ble_eq_true rfl⟩ ⟨rfl, rfl⟩ (q0 := 0) rfl rfl rfl fx_0 fx_0.symm rfl (Nat.le_of_ble_eq_true rfl) dX5_many_75 ?_
      exact r_iret (pc := 78) C hr hlk dX5_many_78 rfl (by simp [maA, *]) rfl
    · skip
      refine r_tableIn (pc := 1) C 43 79 dX5_many_1 (by rw [w_1]; decide) (by rw [w_1]; decide) (by rw [w_1]; rfl) (by decide) ?_
      have w_1 : w = 4 := Int32.toInt_inj.mp (by rw [w_1]; rfl)
      refine r_aload_n (pc := 79) C 0 dX5_many_79 rfl rfl ?_
      refine xg_rowCount (pc := 80) C fl_RX5_85 dX5_many_80 (σ 14 0) rfl ?_
      refine r_eqi (y := nI y) (hY) ?_
      exact r_iret (pc := 83) C hr hlk dX5_many_83 rfl (by simp [maA, *]) rfl
    · skip
      refine r_tableIn (pc := 1) C 43 84 dX5_many_1 (by rw [w_1]; decide) (by rw [w_1]; decide) (by rw [w_1]; rfl) (by decide) ?_
      have w_1 : w = 5 := Int32.toInt_inj.mp (by rw [w_1]; rfl)
      refine r_aload_n (pc := 84) C 0 dX5_many_84 rfl rfl ?_
      refine xg_tape (pc := 85) C fl_RX5_25 dX5_many_85 ?_
      refine xg_t_size (pc := 88) C fl_RX5_63 dX5_many_88 (σ 6 0) rfl ?_
      refine r_eqi (y := nI t) (hT) ?_
      exact r_iret (pc := 91) C hr hlk dX5_many_91 rfl (by simp [maA, *]) rfl
    · skip
      refine r_tableIn (pc := 1) C 43 92 dX5_many_1 (by rw [w_1]; decide) (by rw [w_1]; decide) (by rw [w_1]; rfl) (by decide) ?_
      have w_1 : w = 6 := Int32.toInt_inj.mp (by rw [w_1]; rfl)
      refine r_aload_n (pc := 92) C 0 dX5_many_92 rfl rfl ?_
      refine xg_thing (pc := 93) C fl_RX5_49 dX5_many_93 ?_
      refine xg_h_traceLength (pc := 96) C fl_RX5_281 dX5_many_96 (σ 22 0) rfl ?_
      refine r_eqi (y := nI r) (hRr) ?_
      exact r_iret (pc := 99) C hr hlk dX5_many_99 rfl (by simp [maA, *]) rfl
theorem t_X5_many' (l : Launch) (ad : Nat → Nat) (D : va_G) (cs : Nat → ClassId) (h : Nat → Nat) (σ : Nat → Nat → Int32) (pre post : va_W) (f0_ : Nat → Int32) (e0_ : σ 0 = f0_) (f6_ : Nat → Int32) (e6_ : σ 6 = f6_) (f14_ : Nat → Int32) (e14_ : σ 14 = f14_) (f22_ : Nat → Int32) (e22_ : σ 22 = f22_) (n r y t : Nat) (w : Int32) (hN : f0_ 0 = nI n) (hn : n ≤ 8) (hR : rgM n f0_) (hRr : f22_ 0 = nI r) (hY : f14_ 0 = nI y) (hy0 : y ≤ 10) (hT : f6_ 0 = nI t) : CTi l yX5_many cX5_many 2 .int ({ frames := 2, cells := 0, slots := 0, locals := 44 }) ad D (tysW cs) (pre ++ (wX cs h σ ++ post)) [.ref (h 0), .int w] (maA n y t r f0_ w) (pre ++ (wX cs h σ ++ post)) := by
  subst e0_; subst e6_; subst e14_; subst e22_
  exact t_X5_many l ad D cs h σ pre post n r y t w hN hn hR hRr hY hy0 hT
theorem dX5_isInRows_0 : decode cX5_isInRows 0 = .ok (.iload_n 1, 1) := by decide +kernel
theorem dX5_isInRows_1 : decode cX5_isInRows 1 = .ok (.iconst 0, 1) := by decide +kernel
theorem dX5_isInRows_2 : decode cX5_isInRows 2 = .ok (.aload_n 0, 1) := by decide +kernel
theorem dX5_isInRows_3 : decode cX5_isInRows 3 = .ok (.getfield 85, 3) := by decide +kernel
theorem dX5_isInRows_6 : decode cX5_isInRows 6 = .ok (.iconst 1, 1) := by decide +kernel
theorem dX5_isInRows_7 : decode cX5_isInRows 7 = .ok (.isub, 1) := by decide +kernel
theorem dX5_isInRows_8 : decode cX5_isInRows 8 = .ok (.invokestatic 59, 3) := by decide +kernel
theorem dX5_isInRows_11 : decode cX5_isInRows 11 = .ok (.ifCond .eq 16, 3) := by decide +kernel
theorem dX5_isInRows_14 : decode cX5_isInRows 14 = .ok (.iload_n 2, 1) := by decide +kernel
theorem dX5_isInRows_15 : decode cX5_isInRows 15 = .ok (.iconst 0, 1) := by decide +kernel
theorem dX5_isInRows_16 : decode cX5_isInRows 16 = .ok (.iconst 2, 1) := by decide +kernel
theorem dX5_isInRows_17 : decode cX5_isInRows 17 = .ok (.invokestatic 59, 3) := by decide +kernel
theorem dX5_isInRows_20 : decode cX5_isInRows 20 = .ok (.ifCond .eq 7, 3) := by decide +kernel
theorem dX5_isInRows_23 : decode cX5_isInRows 23 = .ok (.iconst 1, 1) := by decide +kernel
theorem dX5_isInRows_24 : decode cX5_isInRows 24 = .ok (.goto 4, 3) := by decide +kernel
theorem dX5_isInRows_27 : decode cX5_isInRows 27 = .ok (.iconst 0, 1) := by decide +kernel
theorem dX5_isInRows_28 : decode cX5_isInRows 28 = .ok (.ireturn, 1) := by decide +kernel
set_option maxHeartbeats 400000 in
set_option maxRecDepth 20000 in
theorem t_X5_isInRows (l : Launch) (ad : Nat → Nat) (D : va_G) (cs : Nat → ClassId) (h : Nat → Nat) (σ : Nat → Nat → Int32) (pre post : va_W) (n : Nat) (y : Nat) (i w : Int32) (hY : σ 14 0 = nI y) (hy0 : y ≤ 10) : CTi l yX5_isInRows cX5_isInRows 3 .boolean ({ frames := 1, cells := 0, slots := 0, locals := 22 }) ad D (tysW cs) (pre ++ (wX cs h σ ++ post)) [.ref (h 0), .int i, .int w] (bI ((inB i 0 (nI y - 1) && inB w 0 2) = true)) (pre ++ (wX cs h σ ++ post)) := by
  refine CTi.of (lv0 := [(0, .ref (h 0)), (1, .int i), (2, .int w)]) (by decide) rfl (Nat.le_of_ble_eq_true rfl) (fun p e s m args below meth c A C hr hlk => ?_)
  have C : Cx p s m args c cX5_isInRows 3 RX5 ad D (tysW cs) A := C
  refine r_iload_n (pc := 0) C 1 dX5_isInRows_0 rfl rfl ?_
  refine r_iconst (pc := 1) C 0 dX5_isInRows_1 (by decide) ?_
  refine r_aload_n (pc := 2) C 0 dX5_isInRows_2 rfl rfl ?_
  refine xg_rowCount (pc := 3) C fl_RX5_85 dX5_isInRows_3 (σ 14 0) rfl ?_
  refine r_eqi (y := nI y) (hY) ?_
  refine r_iconst (pc := 6) C 1 dX5_isInRows_6 (by decide) ?_
  refine r_isub (pc := 7) C dX5_isInRows_7 ?_
  refine rc_Si (pc := 8) C (t_X5_isWithin l ad D (tysW cs) (wX cs h σ) pre post  i (0 : Int32) ((nI y) - 1) ) ms_X5_isWithin ml_RX5_59 rfl ⟨Nat.le_of_ble_eq_true rfl, Nat.le_of_ble_eq_true rfl⟩ ⟨rfl, rfl⟩ rfl rfl rfl (Nat.le_of_ble_eq_true rfl) dX5_isInRows_8 ?_
  refine r_if_eq (pc := 11) C 27 dX5_isInRows_11 (by decide) (fun c_1 => ?_) (fun c_1 => ?_)
  · skip
    have c_1 := bI_0.mp c_1
    refine r_iconst (pc := 27) C 0 dX5_isInRows_27 (by decide) ?_
    exact r_iret (pc := 28) C hr hlk dX5_isInRows_28 rfl (by simp_all [bI]) rfl
  · skip
    have c_1 := bI_n.mp c_1
    refine r_iload_n (pc := 14) C 2 dX5_isInRows_14 rfl rfl ?_
    refine r_iconst (pc := 15) C 0 dX5_isInRows_15 (by decide) ?_
    refine r_iconst (pc := 16) C 2 dX5_isInRows_16 (by decide) ?_
    refine rc_Si (pc := 17) C (t_X5_isWithin l ad D (tysW cs) (wX cs h σ) pre post  w (0 : Int32) (2 : Int32) ) ms_X5_isWithin ml_RX5_59 rfl ⟨Nat.le_of_ble_eq_true rfl, Nat.le_of_ble_eq_true rfl⟩ ⟨rfl, rfl⟩ rfl rfl rfl (Nat.le_of_ble_eq_true rfl) dX5_isInRows_17 ?_
    refine r_if_eq (pc := 20) C 27 dX5_isInRows_20 (by decide) (fun c_2 => ?_) (fun c_2 => ?_)
    · skip
      have c_2 := bI_0.mp c_2
      refine r_iconst (pc := 27) C 0 dX5_isInRows_27 (by decide) ?_
      exact r_iret (pc := 28) C hr hlk dX5_isInRows_28 rfl (by simp_all [bI]) rfl
    · skip
      have c_2 := bI_n.mp c_2
      refine r_iconst (pc := 23) C 1 dX5_isInRows_23 (by decide) ?_
      refine r_goto (pc := 24) C 28 dX5_isInRows_24 (by decide) ?_
      exact r_iret (pc := 28) C hr hlk dX5_isInRows_28 rfl (by simp_all [bI]) rfl
theorem t_X5_isInRows' (l : Launch) (ad : Nat → Nat) (D : va_G) (cs : Nat → ClassId) (h : Nat → Nat) (σ : Nat → Nat → Int32) (pre post : va_W) (f14_ : Nat → Int32) (e14_ : σ 14 = f14_) (n : Nat) (y : Nat) (i w : Int32) (hY : f14_ 0 = nI y) (hy0 : y ≤ 10) : CTi l yX5_isInRows cX5_isInRows 3 .boolean ({ frames := 1, cells := 0, slots := 0, locals := 22 }) ad D (tysW cs) (pre ++ (wX cs h σ ++ post)) [.ref (h 0), .int i, .int w] (bI ((inB i 0 (nI y - 1) && inB w 0 2) = true)) (pre ++ (wX cs h σ ++ post)) := by
  subst e14_
  exact t_X5_isInRows l ad D cs h σ pre post n y i w hY hy0
theorem dX5_row_0 : decode cX5_row 0 = .ok (.aload_n 0, 1) := by decide +kernel
theorem dX5_row_1 : decode cX5_row 1 = .ok (.iload_n 1, 1) := by decide +kernel
theorem dX5_row_2 : decode cX5_row 2 = .ok (.iload_n 2, 1) := by decide +kernel
theorem dX5_row_3 : decode cX5_row 3 = .ok (.invokevirtual 219, 3) := by decide +kernel
theorem dX5_row_6 : decode cX5_row 6 = .ok (.ifCond .eq 14, 3) := by decide +kernel
theorem dX5_row_9 : decode cX5_row 9 = .ok (.aload_n 0, 1) := by decide +kernel
theorem dX5_row_10 : decode cX5_row 10 = .ok (.getfield 31, 3) := by decide +kernel
theorem dX5_row_13 : decode cX5_row 13 = .ok (.iload_n 1, 1) := by decide +kernel
theorem dX5_row_14 : decode cX5_row 14 = .ok (.aaload, 1) := by decide +kernel
theorem dX5_row_15 : decode cX5_row 15 = .ok (.iload_n 2, 1) := by decide +kernel
theorem dX5_row_16 : decode cX5_row 16 = .ok (.iaload, 1) := by decide +kernel
theorem dX5_row_17 : decode cX5_row 17 = .ok (.goto 5, 3) := by decide +kernel
theorem dX5_row_20 : decode cX5_row 20 = .ok (.bipush (-9), 2) := by decide +kernel
theorem dX5_row_22 : decode cX5_row 22 = .ok (.ireturn, 1) := by decide +kernel
set_option maxHeartbeats 400000 in
set_option maxRecDepth 20000 in
theorem t_X5_row (l : Launch) (ad : Nat → Nat) (D : va_G) (cs : Nat → ClassId) (h : Nat → Nat) (σ : Nat → Nat → Int32) (pre post : va_W) (n : Nat) (y : Nat) (i w : Int32) (hN : σ 0 0 = nI n) (hn : n ≤ 8) (hR : rgM n (σ 0)) (hY : σ 14 0 = nI y) (hy0 : y ≤ 10) : CTi l yX5_row cX5_row 3 .int ({ frames := 2, cells := 0, slots := 0, locals := 44 }) ad D (tysW cs) (pre ++ (wX cs h σ ++ post)) [.ref (h 0), .int i, .int w] (gateI (inB i 0 (nI y - 1) && inB w 0 2) (σ 13 (3 * i.toNatClampNeg + w.toNatClampNeg)) (-9)) (pre ++ (wX cs h σ ++ post)) := by
  refine CTi.of (lv0 := [(0, .ref (h 0)), (1, .int i), (2, .int w)]) (by decide) rfl (Nat.le_of_ble_eq_true rfl) (fun p e s m args below meth c A C hr hlk => ?_)
  have C : Cx p s m args c cX5_row 3 RX5 ad D (tysW cs) A := C
  refine r_aload_n (pc := 0) C 0 dX5_row_0 rfl rfl ?_
  refine r_iload_n (pc := 1) C 1 dX5_row_1 rfl rfl ?_
  refine r_iload_n (pc := 2) C 2 dX5_row_2 rfl rfl ?_
  refine rc_Vi (pc := 3) C (t_X5_isInRows' l ad D cs h σ pre post (σ 14) (rfl) n y i w hY hy0) mv_X5_isInRows ml_RX5_219 rfl ⟨Nat.le_of_ble_eq_true rfl, Nat.le_of_ble_eq_true rfl⟩ ⟨rfl, rfl⟩ (q0 := 0) rfl rfl rfl rfl rfl rfl (Nat.le_of_ble_eq_true rfl) dX5_row_3 ?_
  refine r_if_eq (pc := 6) C 20 dX5_row_6 (by decide) (fun c_1 => ?_) (fun c_1 => ?_)
  · skip
    have c_1 := bI_0.mp c_1
    refine r_bipush (pc := 20) C (-9) dX5_row_20 (by decide) ?_
    exact r_iret (pc := 22) C hr hlk dX5_row_22 rfl (by first | rfl | (simp [gateI, gateF, *]; done) | simp_all [gateI, gateF]) rfl
  · skip
    have c_1 := bI_n.mp c_1
    obtain ⟨a_2, b_2⟩ := (Bool.and_eq_true _ _).mp c_1
    obtain ⟨t, h_t, rfl⟩ := rng_pred y (by omega) a_2
    have e_t : (nI t).toNatClampNeg = t := nI_clamp (by omega)
    obtain ⟨u, l_u, h_u, rfl⟩ := rng_nat 0 2 (by decide) (by decide) b_2
    have e_u : (nI u).toNatClampNeg = u := nI_clamp (by omega)
    refine r_aload_n (pc := 9) C 0 dX5_row_9 rfl rfl ?_
    refine xg_rows (pc := 10) C fl_RX5_31 dX5_row_10 ?_
    refine r_iload_n (pc := 13) C 1 dX5_row_13 rfl rfl ?_
    refine xa_rows (pc := 14) C t (rfl) (by omega) dX5_row_14 ?_
    refine r_iload_n (pc := 15) C 2 dX5_row_15 rfl rfl ?_
    refine xl_rw (pc := 16) C t (by omega) u (rfl) (by omega) dX5_row_16 (σ 13 (3 * t + u)) rfl ?_
    refine r_goto (pc := 17) C 22 dX5_row_17 (by decide) ?_
    exact r_iret (pc := 22) C hr hlk dX5_row_22 rfl (by first | rfl | (simp [gateI, gateF, *]; done) | simp_all [gateI, gateF]) rfl
theorem t_X5_row' (l : Launch) (ad : Nat → Nat) (D : va_G) (cs : Nat → ClassId) (h : Nat → Nat) (σ : Nat → Nat → Int32) (pre post : va_W) (f0_ : Nat → Int32) (e0_ : σ 0 = f0_) (f13_ : Nat → Int32) (e13_ : σ 13 = f13_) (f14_ : Nat → Int32) (e14_ : σ 14 = f14_) (n : Nat) (y : Nat) (i w : Int32) (hN : f0_ 0 = nI n) (hn : n ≤ 8) (hR : rgM n f0_) (hY : f14_ 0 = nI y) (hy0 : y ≤ 10) : CTi l yX5_row cX5_row 3 .int ({ frames := 2, cells := 0, slots := 0, locals := 44 }) ad D (tysW cs) (pre ++ (wX cs h σ ++ post)) [.ref (h 0), .int i, .int w] (gateI (inB i 0 (nI y - 1) && inB w 0 2) (f13_ (3 * i.toNatClampNeg + w.toNatClampNeg)) (-9)) (pre ++ (wX cs h σ ++ post)) := by
  subst e0_; subst e13_; subst e14_
  exact t_X5_row l ad D cs h σ pre post n y i w hN hn hR hY hy0
theorem dX5_alterRow_0 : decode cX5_alterRow 0 = .ok (.aload_n 0, 1) := by decide +kernel
theorem dX5_alterRow_1 : decode cX5_alterRow 1 = .ok (.iload_n 1, 1) := by decide +kernel
theorem dX5_alterRow_2 : decode cX5_alterRow 2 = .ok (.iload_n 2, 1) := by decide +kernel
theorem dX5_alterRow_3 : decode cX5_alterRow 3 = .ok (.invokevirtual 219, 3) := by decide +kernel
theorem dX5_alterRow_6 : decode cX5_alterRow 6 = .ok (.ifCond .ne 6, 3) := by decide +kernel
theorem dX5_alterRow_9 : decode cX5_alterRow 9 = .ok (.bipush (-9), 2) := by decide +kernel
theorem dX5_alterRow_11 : decode cX5_alterRow 11 = .ok (.ireturn, 1) := by decide +kernel
theorem dX5_alterRow_12 : decode cX5_alterRow 12 = .ok (.aload_n 0, 1) := by decide +kernel
theorem dX5_alterRow_13 : decode cX5_alterRow 13 = .ok (.getfield 31, 3) := by decide +kernel
theorem dX5_alterRow_16 : decode cX5_alterRow 16 = .ok (.iload_n 1, 1) := by decide +kernel
theorem dX5_alterRow_17 : decode cX5_alterRow 17 = .ok (.aaload, 1) := by decide +kernel
theorem dX5_alterRow_18 : decode cX5_alterRow 18 = .ok (.iload_n 2, 1) := by decide +kernel
theorem dX5_alterRow_19 : decode cX5_alterRow 19 = .ok (.iaload, 1) := by decide +kernel
theorem dX5_alterRow_20 : decode cX5_alterRow 20 = .ok (.istore 4, 2) := by decide +kernel
theorem dX5_alterRow_22 : decode cX5_alterRow 22 = .ok (.aload_n 0, 1) := by decide +kernel
theorem dX5_alterRow_23 : decode cX5_alterRow 23 = .ok (.getfield 31, 3) := by decide +kernel
theorem dX5_alterRow_26 : decode cX5_alterRow 26 = .ok (.iload_n 1, 1) := by decide +kernel
theorem dX5_alterRow_27 : decode cX5_alterRow 27 = .ok (.aaload, 1) := by decide +kernel
theorem dX5_alterRow_28 : decode cX5_alterRow 28 = .ok (.iload_n 2, 1) := by decide +kernel
theorem dX5_alterRow_29 : decode cX5_alterRow 29 = .ok (.iload_n 3, 1) := by decide +kernel
theorem dX5_alterRow_30 : decode cX5_alterRow 30 = .ok (.iastore, 1) := by decide +kernel
theorem dX5_alterRow_31 : decode cX5_alterRow 31 = .ok (.iload 4, 2) := by decide +kernel
theorem dX5_alterRow_33 : decode cX5_alterRow 33 = .ok (.ireturn, 1) := by decide +kernel
set_option maxHeartbeats 400000 in
set_option maxRecDepth 20000 in
theorem t_X5_alterRow (l : Launch) (ad : Nat → Nat) (D : va_G) (cs : Nat → ClassId) (h : Nat → Nat) (σ : Nat → Nat → Int32) (pre post : va_W) (n : Nat) (y : Nat) (i w v : Int32) (hN : σ 0 0 = nI n) (hn : n ≤ 8) (hR : rgM n (σ 0)) (hY : σ 14 0 = nI y) (hy0 : y ≤ 10) : CTi l yX5_alterRow cX5_alterRow 5 .int ({ frames := 2, cells := 0, slots := 0, locals := 44 }) ad D (tysW cs) (pre ++ (wX cs h σ ++ post)) [.ref (h 0), .int i, .int w, .int v] (gateI (inB i 0 (nI y - 1) && inB w 0 2) (σ 13 (3 * i.toNatClampNeg + w.toNatClampNeg)) (-9)) (pre ++ (wX cs h (su σ 13 (gateF (inB i 0 (nI y - 1) && inB w 0 2) (upd (σ 13) (3 * i.toNatClampNeg + w.toNatClampNeg) v) (σ 13))) ++ post)) := by
  refine CTi.of (lv0 := [(0, .ref (h 0)), (1, .int i), (2, .int w), (3, .int v)]) (by decide) rfl (Nat.le_of_ble_eq_true rfl) (fun p e s m args below meth c A C hr hlk => ?_)
  have C : Cx p s m args c cX5_alterRow 5 RX5 ad D (tysW cs) A := C
  refine r_aload_n (pc := 0) C 0 dX5_alterRow_0 rfl rfl ?_
  refine r_iload_n (pc := 1) C 1 dX5_alterRow_1 rfl rfl ?_
  refine r_iload_n (pc := 2) C 2 dX5_alterRow_2 rfl rfl ?_
  refine rc_Vi (pc := 3) C (t_X5_isInRows' l ad D cs h σ pre post (σ 14) (rfl) n y i w hY hy0) mv_X5_isInRows ml_RX5_219 rfl ⟨Nat.le_of_ble_eq_true rfl, Nat.le_of_ble_eq_true rfl⟩ ⟨rfl, rfl⟩ (q0 := 0) rfl rfl rfl rfl rfl rfl (Nat.le_of_ble_eq_true rfl) dX5_alterRow_3 ?_
  refine r_if_ne (pc := 6) C 12 dX5_alterRow_6 (by decide) (fun c_1 => ?_) (fun c_1 => ?_)
  · skip
    have c_1 := bI_n.mp c_1
    obtain ⟨a_2, b_2⟩ := (Bool.and_eq_true _ _).mp c_1
    obtain ⟨t, h_t, rfl⟩ := rng_pred y (by omega) a_2
    have e_t : (nI t).toNatClampNeg = t := nI_clamp (by omega)
    obtain ⟨u, l_u, h_u, rfl⟩ := rng_nat 0 2 (by decide) (by decide) b_2
    have e_u : (nI u).toNatClampNeg = u := nI_clamp (by omega)
    refine r_aload_n (pc := 12) C 0 dX5_alterRow_12 rfl rfl ?_
    refine xg_rows (pc := 13) C fl_RX5_31 dX5_alterRow_13 ?_
    refine r_iload_n (pc := 16) C 1 dX5_alterRow_16 rfl rfl ?_
    refine xa_rows (pc := 17) C t (rfl) (by omega) dX5_alterRow_17 ?_
    refine r_iload_n (pc := 18) C 2 dX5_alterRow_18 rfl rfl ?_
    refine xl_rw (pc := 19) C t (by omega) u (rfl) (by omega) dX5_alterRow_19 (σ 13 (3 * t + u)) rfl ?_
    refine r_istore (pc := 20) C [(4, .int (σ 13 (3 * t + u))), (0, .ref (h 0)), (1, .int (nI t)), (2, .int (nI u)), (3, .int v)] dX5_alterRow_20 (by decide) rfl ?_
    refine r_aload_n (pc := 22) C 1 dX5_alterRow_22 rfl rfl ?_
    refine xg_rows (pc := 23) C fl_RX5_31 dX5_alterRow_23 ?_
    refine r_iload_n (pc := 26) C 2 dX5_alterRow_26 rfl rfl ?_
    refine xa_rows (pc := 27) C t (rfl) (by omega) dX5_alterRow_27 ?_
    refine r_iload_n (pc := 28) C 3 dX5_alterRow_28 rfl rfl ?_
    refine r_iload_n (pc := 29) C 4 dX5_alterRow_29 rfl rfl ?_
    refine xs_rw (pc := 30) C t (by omega) u (rfl) (by omega) dX5_alterRow_30 (σ 13) (rfl) ?_
    refine r_iload (pc := 31) C 0 dX5_alterRow_31 rfl ?_
    exact r_iret (pc := 33) C hr hlk dX5_alterRow_33 rfl (by first | rfl | (simp [gateI, gateF, *]; done) | simp_all [gateI, gateF]) (by rw [show (gateF (inB (nI t) 0 (nI y - 1) && inB (nI u) 0 2) (upd (σ 13) (3 * (nI t).toNatClampNeg + (nI u).toNatClampNeg) v) (σ 13) : Nat → Int32) = upd (σ 13) (3 * t + u) v from (by first | rfl | (simp [gateI, gateF, *]; done) | simp_all [gateI, gateF])] <;> rfl)
  · skip
    have c_1 := bI_0.mp c_1
    refine r_bipush (pc := 9) C (-9) dX5_alterRow_9 (by decide) ?_
    exact r_iret (pc := 11) C hr hlk dX5_alterRow_11 rfl (by first | rfl | (simp [gateI, gateF, *]; done) | simp_all [gateI, gateF]) (by rw [show (gateF (inB i 0 (nI y - 1) && inB w 0 2) (upd (σ 13) (3 * i.toNatClampNeg + w.toNatClampNeg) v) (σ 13) : Nat → Int32) = σ 13 from (by first | rfl | (simp [gateI, gateF, *]; done) | simp_all [gateI, gateF])] <;> rfl)
theorem t_X5_alterRow' (l : Launch) (ad : Nat → Nat) (D : va_G) (cs : Nat → ClassId) (h : Nat → Nat) (σ : Nat → Nat → Int32) (pre post : va_W) (f0_ : Nat → Int32) (e0_ : σ 0 = f0_) (f13_ : Nat → Int32) (e13_ : σ 13 = f13_) (f14_ : Nat → Int32) (e14_ : σ 14 = f14_) (n : Nat) (y : Nat) (i w v : Int32) (hN : f0_ 0 = nI n) (hn : n ≤ 8) (hR : rgM n f0_) (hY : f14_ 0 = nI y) (hy0 : y ≤ 10) : CTi l yX5_alterRow cX5_alterRow 5 .int ({ frames := 2, cells := 0, slots := 0, locals := 44 }) ad D (tysW cs) (pre ++ (wX cs h σ ++ post)) [.ref (h 0), .int i, .int w, .int v] (gateI (inB i 0 (nI y - 1) && inB w 0 2) (f13_ (3 * i.toNatClampNeg + w.toNatClampNeg)) (-9)) (pre ++ (wX cs h (su σ 13 (gateF (inB i 0 (nI y - 1) && inB w 0 2) (upd (f13_) (3 * i.toNatClampNeg + w.toNatClampNeg) v) (f13_))) ++ post)) := by
  subst e0_; subst e13_; subst e14_
  exact t_X5_alterRow l ad D cs h σ pre post n y i w v hN hn hR hY hy0
theorem dX5_prove_0 : decode cX5_prove 0 = .ok (.aload_n 0, 1) := by decide +kernel
theorem dX5_prove_1 : decode cX5_prove 1 = .ok (.getfield 10, 3) := by decide +kernel
theorem dX5_prove_4 : decode cX5_prove 4 = .ok (.iload_n 1, 1) := by decide +kernel
theorem dX5_prove_5 : decode cX5_prove 5 = .ok (.invokevirtual 116, 3) := by decide +kernel
theorem dX5_prove_8 : decode cX5_prove 8 = .ok (.ifCond .eq 13, 3) := by decide +kernel
theorem dX5_prove_11 : decode cX5_prove 11 = .ok (.iload_n 2, 1) := by decide +kernel
theorem dX5_prove_12 : decode cX5_prove 12 = .ok (.iconst 1, 1) := by decide +kernel
theorem dX5_prove_13 : decode cX5_prove 13 = .ok (.bipush 10, 2) := by decide +kernel
theorem dX5_prove_15 : decode cX5_prove 15 = .ok (.invokestatic 59, 3) := by decide +kernel
theorem dX5_prove_18 : decode cX5_prove 18 = .ok (.ifCond .ne 5, 3) := by decide +kernel
theorem dX5_prove_21 : decode cX5_prove 21 = .ok (.iconst (-1), 1) := by decide +kernel
theorem dX5_prove_22 : decode cX5_prove 22 = .ok (.ireturn, 1) := by decide +kernel
theorem dX5_prove_23 : decode cX5_prove 23 = .ok (.aload_n 0, 1) := by decide +kernel
theorem dX5_prove_24 : decode cX5_prove 24 = .ok (.getfield 16, 3) := by decide +kernel
theorem dX5_prove_27 : decode cX5_prove 27 = .ok (.aload_n 0, 1) := by decide +kernel
theorem dX5_prove_28 : decode cX5_prove 28 = .ok (.getfield 10, 3) := by decide +kernel
theorem dX5_prove_31 : decode cX5_prove 31 = .ok (.invokevirtual 81, 3) := by decide +kernel
theorem dX5_prove_34 : decode cX5_prove 34 = .ok (.iconst 0, 1) := by decide +kernel
theorem dX5_prove_35 : decode cX5_prove 35 = .ok (.istore_n 3, 1) := by decide +kernel
theorem dX5_prove_36 : decode cX5_prove 36 = .ok (.iload_n 3, 1) := by decide +kernel
theorem dX5_prove_37 : decode cX5_prove 37 = .ok (.iload_n 2, 1) := by decide +kernel
theorem dX5_prove_38 : decode cX5_prove 38 = .ok (.if_icmp .ge 51, 3) := by decide +kernel
theorem dX5_prove_41 : decode cX5_prove 41 = .ok (.aload_n 0, 1) := by decide +kernel
theorem dX5_prove_42 : decode cX5_prove 42 = .ok (.getfield 16, 3) := by decide +kernel
theorem dX5_prove_45 : decode cX5_prove 45 = .ok (.iconst 1, 1) := by decide +kernel
theorem dX5_prove_46 : decode cX5_prove 46 = .ok (.invokevirtual 142, 3) := by decide +kernel
theorem dX5_prove_49 : decode cX5_prove 49 = .ok (.iconst 0, 1) := by decide +kernel
theorem dX5_prove_50 : decode cX5_prove 50 = .ok (.istore 4, 2) := by decide +kernel
theorem dX5_prove_52 : decode cX5_prove 52 = .ok (.iload 4, 2) := by decide +kernel
theorem dX5_prove_54 : decode cX5_prove 54 = .ok (.iconst 3, 1) := by decide +kernel
theorem dX5_prove_55 : decode cX5_prove 55 = .ok (.if_icmp .ge 28, 3) := by decide +kernel
theorem dX5_prove_58 : decode cX5_prove 58 = .ok (.aload_n 0, 1) := by decide +kernel
theorem dX5_prove_59 : decode cX5_prove 59 = .ok (.getfield 31, 3) := by decide +kernel
theorem dX5_prove_62 : decode cX5_prove 62 = .ok (.iload_n 3, 1) := by decide +kernel
theorem dX5_prove_63 : decode cX5_prove 63 = .ok (.aaload, 1) := by decide +kernel
theorem dX5_prove_64 : decode cX5_prove 64 = .ok (.iload 4, 2) := by decide +kernel
theorem dX5_prove_66 : decode cX5_prove 66 = .ok (.aload_n 0, 1) := by decide +kernel
theorem dX5_prove_67 : decode cX5_prove 67 = .ok (.getfield 16, 3) := by decide +kernel
theorem dX5_prove_70 : decode cX5_prove 70 = .ok (.iload_n 1, 1) := by decide +kernel
theorem dX5_prove_71 : decode cX5_prove 71 = .ok (.iload 4, 2) := by decide +kernel
theorem dX5_prove_73 : decode cX5_prove 73 = .ok (.invokevirtual 216, 3) := by decide +kernel
theorem dX5_prove_76 : decode cX5_prove 76 = .ok (.iastore, 1) := by decide +kernel
theorem dX5_prove_77 : decode cX5_prove 77 = .ok (.iinc 4 1, 3) := by decide +kernel
theorem dX5_prove_80 : decode cX5_prove 80 = .ok (.goto (-28), 3) := by decide +kernel
theorem dX5_prove_83 : decode cX5_prove 83 = .ok (.iinc 3 1, 3) := by decide +kernel
theorem dX5_prove_86 : decode cX5_prove 86 = .ok (.goto (-50), 3) := by decide +kernel
theorem dX5_prove_89 : decode cX5_prove 89 = .ok (.aload_n 0, 1) := by decide +kernel
theorem dX5_prove_90 : decode cX5_prove 90 = .ok (.iload_n 2, 1) := by decide +kernel
theorem dX5_prove_91 : decode cX5_prove 91 = .ok (.putfield 85, 3) := by decide +kernel
theorem dX5_prove_94 : decode cX5_prove 94 = .ok (.iload_n 2, 1) := by decide +kernel
theorem dX5_prove_95 : decode cX5_prove 95 = .ok (.ireturn, 1) := by decide +kernel
set_option maxHeartbeats 400000 in
set_option maxRecDepth 20000 in
theorem t_X5_prove (l : Launch) (ad : Nat → Nat) (D : va_G) (cs : Nat → ClassId) (h : Nat → Nat) (σ : Nat → Nat → Int32) (pre post : va_W) (n : Nat) (o k : Int32) (hN : σ 0 0 = nI n) (hn : n ≤ 8) (hR : rgM n (σ 0)) : CTi l yX5_prove cX5_prove 5 .int ({ frames := 5, cells := 0, slots := 0, locals := 114 }) ad D (tysW cs) (pre ++ (wX cs h σ ++ post)) [.ref (h 0), .int o, .int k] (gateI (oneB n o && inB k 1 10) k (-1)) (pre ++ (wX cs h (su (su (su σ 2 (gateF (oneB n o && inB k 1 10) (daysF n (σ 0) k.toNatClampNeg) (σ 2))) 13 (gateF (oneB n o && inB k 1 10) (prN n (σ 0) (σ 13) o.toNatClampNeg k.toNatClampNeg) (σ 13))) 14 (gateF (oneB n o && inB k 1 10) (fun _ => k) (σ 14))) ++ post)) := by
  refine CTi.of (lv0 := [(0, .ref (h 0)), (1, .int o), (2, .int k)]) (by decide) rfl (Nat.le_of_ble_eq_true rfl) (fun p e s m args below meth c A C hr hlk => ?_)
  have C : Cx p s m args c cX5_prove 5 RX5 ad D (tysW cs) A := C
  refine r_aload_n (pc := 0) C 0 dX5_prove_0 rfl rfl ?_
  refine xg_now (pc := 1) C fl_RX5_10 dX5_prove_1 ?_
  refine r_iload_n (pc := 4) C 1 dX5_prove_4 rfl rfl ?_
  refine rc_Vi (pc := 5) C (t_X0_exists' l ad D cs (fun j => h (1 + j)) (fun _ => σ 0) (pre ++ xA_0 cs h σ) (xC_0 cs h σ ++ post) (σ 0) rfl n o hN hn) mv_X0_exists ml_RX5_116 rfl ⟨Nat.le_of_ble_eq_true rfl, Nat.le_of_ble_eq_true rfl⟩ ⟨rfl, rfl⟩ (q0 := 0) rfl rfl rfl fx_0 fx_0.symm rfl (Nat.le_of_ble_eq_true rfl) dX5_prove_5 ?_
  refine r_if_eq (pc := 8) C 21 dX5_prove_8 (by decide) (fun c_1 => ?_) (fun c_1 => ?_)
  · skip
    have c_1 := bI_0.mp c_1
    refine r_iconst (pc := 21) C (-1) dX5_prove_21 (by decide) ?_
    exact r_iret (pc := 22) C hr hlk dX5_prove_22 rfl (by first | rfl | (simp [gateI, gateF, *]; done) | simp_all [gateI, gateF]) (by rw [show (gateF (oneB n o && inB k 1 10) (daysF n (σ 0) k.toNatClampNeg) (σ 2) : Nat → Int32) = σ 2 from (by first | rfl | (simp [gateI, gateF, *]; done) | simp_all [gateI, gateF]), show (gateF (oneB n o && inB k 1 10) (prN n (σ 0) (σ 13) o.toNatClampNeg k.toNatClampNeg) (σ 13) : Nat → Int32) = σ 13 from (by first | rfl | (simp [gateI, gateF, *]; done) | simp_all [gateI, gateF]), show (gateF (oneB n o && inB k 1 10) (fun _ => k) (σ 14) : Nat → Int32) = σ 14 from (by first | rfl | (simp [gateI, gateF, *]; done) | simp_all [gateI, gateF])] <;> rfl)
  · skip
    have c_1 := bI_n.mp c_1
    obtain ⟨j, h_j, rfl⟩ := one_nat (by omega) c_1
    have e_j : (nI j).toNatClampNeg = j := nI_clamp (by omega)
    refine r_iload_n (pc := 11) C 2 dX5_prove_11 rfl rfl ?_
    refine r_iconst (pc := 12) C 1 dX5_prove_12 (by decide) ?_
    refine r_bipush (pc := 13) C 10 dX5_prove_13 (by decide) ?_
    refine rc_Si (pc := 15) C (t_X5_isWithin l ad D (tysW cs) (wX cs h σ) pre post  k (1 : Int32) (10 : Int32) ) ms_X5_isWithin ml_RX5_59 rfl ⟨Nat.le_of_ble_eq_true rfl, Nat.le_of_ble_eq_true rfl⟩ ⟨rfl, rfl⟩ rfl rfl rfl (Nat.le_of_ble_eq_true rfl) dX5_prove_15 ?_
    refine r_if_ne (pc := 18) C 23 dX5_prove_18 (by decide) (fun c_2 => ?_) (fun c_2 => ?_)
    · skip
      have c_2 := bI_n.mp c_2
      obtain ⟨t, l_t, h_t, rfl⟩ := rng_nat 1 10 (by decide) (by decide) c_2
      have e_t : (nI t).toNatClampNeg = t := nI_clamp (by omega)
      refine r_aload_n (pc := 23) C 0 dX5_prove_23 rfl rfl ?_
      refine xg_tried (pc := 24) C fl_RX5_16 dX5_prove_24 ?_
      refine r_aload_n (pc := 27) C 0 dX5_prove_27 rfl rfl ?_
      refine xg_now (pc := 28) C fl_RX5_10 dX5_prove_28 ?_
      refine rc_Vv (pc := 31) C (t_X0_copyFrom_0_2' l ad D cs h σ pre post (σ 0) (rfl)  ) mv_X0_copyFrom ml_RX5_81 rfl ⟨Nat.le_of_ble_eq_true rfl, Nat.le_of_ble_eq_true rfl⟩ ⟨rfl, rfl⟩ (q0 := 9) rfl rfl rfl rfl rfl rfl (Nat.le_of_ble_eq_true rfl) dX5_prove_31 ?_
      refine r_iconst (pc := 34) C 0 dX5_prove_34 (by decide) ?_
      refine r_istore_n (pc := 35) C [(3, .int 0), (0, .ref (h 0)), (1, .int (nI j)), (2, .int (nI t))] dX5_prove_35 rfl (by decide) rfl ?_
      refine r_pick (lv' := [(0, .ref (h 0)), (1, .int (nI j)), (2, .int (nI t)), (3, .int 0)]) [1, 2, 3, 0] rfl ?_
      refine r_blk (blk' := wX cs h (su (su σ 2 (daysF n (σ 0) 0)) 13 (prN n (σ 0) (σ 13) j 0))) (rfl) ?_
      refine r_loop (blkf := fun i => wX cs h (su (su σ 2 (daysF n (σ 0) i)) 13 (prN n (σ 0) (σ 13) j i))) (lvf := fun i => [(0, .ref (h 0)), (1, .int (nI j)), (2, .int (nI t)), (3, .int (nI i))]) (fun i => True) t 0 (by omega) (trivial) (fun i h_i _ ih_36 => ?_)
      show VX p l e _ s m args below meth c _ D A 5 pre (wX cs h (su (su σ 2 (daysF n (σ 0) i)) 13 (prN n (σ 0) (σ 13) j i))) post 36 [(0, .ref (h 0)), (1, .int (nI j)), (2, .int (nI t)), (3, .int (nI i))] []
      refine r_iload_n (pc := 36) C 3 dX5_prove_36 rfl rfl ?_
      refine r_iload_n (pc := 37) C 2 dX5_prove_37 rfl rfl ?_
      refine r_icmp_ge (pc := 38) C 89 dX5_prove_38 (by decide) (fun c_3 => ?_) (fun c_3 => ?_)
      · skip
        have c_3 := nIc_ge_t (a := i) (b := t) (by omega) (by omega) c_3
        obtain rfl : t = i := by omega
        refine r_aload_n (pc := 89) C 0 dX5_prove_89 rfl rfl ?_
        refine r_iload_n (pc := 90) C 2 dX5_prove_90 rfl rfl ?_
        refine xp_rowCount (pc := 91) C fl_RX5_85 dX5_prove_91 ?_
        refine r_iload_n (pc := 94) C 2 dX5_prove_94 rfl rfl ?_
        exact r_iret (pc := 95) C hr hlk dX5_prove_95 rfl (by first | rfl | (simp [gateI, gateF, *]; done) | simp_all [gateI, gateF]) (by rw [show (gateF (oneB n (nI j) && inB (nI t) 1 10) (daysF n (σ 0) (nI t).toNatClampNeg) (σ 2) : Nat → Int32) = daysF n (σ 0) t from (by first | rfl | (simp [gateI, gateF, *]; done) | simp_all [gateI, gateF]), show (gateF (oneB n (nI j) && inB (nI t) 1 10) (prN n (σ 0) (σ 13) (nI j).toNatClampNeg (nI t).toNatClampNeg) (σ 13) : Nat → Int32) = prN n (σ 0) (σ 13) j t from (by first | rfl | (simp [gateI, gateF, *]; done) | simp_all [gateI, gateF]), show (gateF (oneB n (nI j) && inB (nI t) 1 10) (fun _ => (nI t)) (σ 14) : Nat → Int32) = fun _ => nI t from (by first | rfl | (simp [gateI, gateF, *]; done) | simp_all [gateI, gateF])] <;> rfl)
      · skip
        have c_3 := nIc_ge_f (a := i) (b := t) (by omega) (by omega) c_3
        refine r_aload_n (pc := 41) C 0 dX5_prove_41 rfl rfl ?_
        refine xg_tried (pc := 42) C fl_RX5_16 dX5_prove_42 ?_
        refine r_iconst (pc := 45) C 1 dX5_prove_45 (by decide) ?_
        refine rc_Vv (pc := 46) C (t_X0_passDays' l ad D cs (fun j => h (9 + j)) (fun _ => daysF n (σ 0) i) (pre ++ xA_2 cs h (su (su σ 2 (daysF n (σ 0) i)) 13 (prN n (σ 0) (σ 13) j i))) (xC_2 cs h (su (su σ 2 (daysF n (σ 0) i)) 13 (prN n (σ 0) (σ 13) j i)) ++ post) (daysF n (σ 0) i) rfl n 1 (daysF_0 hN) hn (rg_days hR i) (by omega)) mv_X0_passDays ml_RX5_142 rfl ⟨Nat.le_of_ble_eq_true rfl, Nat.le_of_ble_eq_true rfl⟩ ⟨rfl, rfl⟩ (q0 := 0) rfl rfl rfl fx_2 (bx_2 _) rfl (Nat.le_of_ble_eq_true rfl) dX5_prove_46 ?_
        refine r_blk (blk' := wX cs h (su (su σ 2 (daysF n (daysF n (σ 0) i) 1)) 13 (prN n (σ 0) (σ 13) j i))) (congrArg (wX cs h) (by rw [su_cm (k := 13) (j := 2) (by decide), su_su (k := 2)])) ?_
        have f_4 : daysF n (daysF n (σ 0) i) 1 0 = nI n := daysF_0 (daysF_0 hN)
        refine r_blk (blk' := wX cs h (su (su σ 2 (daysF n (σ 0) (i + 1))) 13 (prN n (σ 0) (σ 13) j i))) (rfl) ?_
        refine r_iconst (pc := 49) C 0 dX5_prove_49 (by decide) ?_
        refine r_istore (pc := 50) C [(4, .int 0), (0, .ref (h 0)), (1, .int (nI j)), (2, .int (nI t)), (3, .int (nI i))] dX5_prove_50 (by decide) rfl ?_
        refine r_iload (pc := 52) C 0 dX5_prove_52 rfl ?_
        refine r_iconst (pc := 54) C 3 dX5_prove_54 (by decide) ?_
        refine r_icmp_ge (pc := 55) C 83 dX5_prove_55 (by decide) (fun c_5 => ?_) (fun c_5 => ?_)
        · skip
          revert c_5; intro c_5
          exact absurd c_5 (by decide)
        · skip
          revert c_5; intro c_5
          refine r_aload_n (pc := 58) C 1 dX5_prove_58 rfl rfl ?_
          refine xg_rows (pc := 59) C fl_RX5_31 dX5_prove_59 ?_
          refine r_iload_n (pc := 62) C 4 dX5_prove_62 rfl rfl ?_
          refine xa_rows (pc := 63) C i (rfl) (by omega) dX5_prove_63 ?_
          refine r_iload (pc := 64) C 0 dX5_prove_64 rfl ?_
          refine r_aload_n (pc := 66) C 1 dX5_prove_66 rfl rfl ?_
          refine xg_tried (pc := 67) C fl_RX5_16 dX5_prove_67 ?_
          refine r_iload_n (pc := 70) C 2 dX5_prove_70 rfl rfl ?_
          refine r_iload (pc := 71) C 0 dX5_prove_71 rfl ?_
          refine rc_Vi (pc := 73) C (t_X0_partOfRow_0' l ad D cs (fun j => h (9 + j)) (fun _ => daysF n (σ 0) (i + 1)) (pre ++ xA_2 cs h (su (su σ 2 (daysF n (σ 0) (i + 1))) 13 (prN n (σ 0) (σ 13) j i))) (xC_2 cs h (su (su σ 2 (daysF n (σ 0) (i + 1))) 13 (prN n (σ 0) (σ 13) j i)) ++ post) (daysF n (σ 0) (i + 1)) rfl n j (daysF_0 hN) hn h_j) mv_X0_partOfRow ml_RX5_216 rfl ⟨Nat.le_of_ble_eq_true rfl, Nat.le_of_ble_eq_true rfl⟩ ⟨rfl, rfl⟩ (q0 := 0) rfl rfl rfl fx_2 fx_2.symm rfl (Nat.le_of_ble_eq_true rfl) dX5_prove_73 ?_
          refine xs_rw (pc := 76) C i (by omega) 0 (rfl) (by omega) dX5_prove_76 (prN n (σ 0) (σ 13) j i) (su_at) ?_
          refine r_blk (blk' := wX cs h (su (su σ 2 (daysF n (σ 0) (i + 1))) 13 (upd (prN n (σ 0) (σ 13) j i) (3 * i + 0) (daysF n (σ 0) (i + 1) (8 + 5 * j + 3))))) (congrArg (wX cs h) (by rw [su_su])) ?_
          refine r_iinc (pc := 77) C 1 0 [(4, .int 1), (0, .ref (h 0)), (1, .int (nI j)), (2, .int (nI t)), (3, .int (nI i))] dX5_prove_77 rfl ((by decide)) (by decide) rfl ?_
          refine r_goto (pc := 80) C 52 dX5_prove_80 (by decide) ?_
          refine r_iload (pc := 52) C 0 dX5_prove_52 rfl ?_
          refine r_iconst (pc := 54) C 3 dX5_prove_54 (by decide) ?_
          refine r_icmp_ge (pc := 55) C 83 dX5_prove_55 (by decide) (fun c_6 => ?_) (fun c_6 => ?_)
          · skip
            revert c_6; intro c_6
            exact absurd c_6 (by decide)
          · skip
            revert c_6; intro c_6
            refine r_aload_n (pc := 58) C 1 dX5_prove_58 rfl rfl ?_
            refine xg_rows (pc := 59) C fl_RX5_31 dX5_prove_59 ?_
            refine r_iload_n (pc := 62) C 4 dX5_prove_62 rfl rfl ?_
            refine xa_rows (pc := 63) C i (rfl) (by omega) dX5_prove_63 ?_
            refine r_iload (pc := 64) C 0 dX5_prove_64 rfl ?_
            refine r_aload_n (pc := 66) C 1 dX5_prove_66 rfl rfl ?_
            refine xg_tried (pc := 67) C fl_RX5_16 dX5_prove_67 ?_
            refine r_iload_n (pc := 70) C 2 dX5_prove_70 rfl rfl ?_
            refine r_iload (pc := 71) C 0 dX5_prove_71 rfl ?_
            refine rc_Vi (pc := 73) C (t_X0_partOfRow_1' l ad D cs (fun j => h (9 + j)) (fun _ => daysF n (σ 0) (i + 1)) (pre ++ xA_2 cs h (su (su σ 2 (daysF n (σ 0) (i + 1))) 13 (upd (prN n (σ 0) (σ 13) j i) (3 * i + 0) (daysF n (σ 0) (i + 1) (8 + 5 * j + 3))))) (xC_2 cs h (su (su σ 2 (daysF n (σ 0) (i + 1))) 13 (upd (prN n (σ 0) (σ 13) j i) (3 * i + 0) (daysF n (σ 0) (i + 1) (8 + 5 * j + 3)))) ++ post) (daysF n (σ 0) (i + 1)) rfl n j (daysF_0 hN) hn h_j) mv_X0_partOfRow ml_RX5_216 rfl ⟨Nat.le_of_ble_eq_true rfl, Nat.le_of_ble_eq_true rfl⟩ ⟨rfl, rfl⟩ (q0 := 0) rfl rfl rfl fx_2 fx_2.symm rfl (Nat.le_of_ble_eq_true rfl) dX5_prove_73 ?_
            refine xs_rw (pc := 76) C i (by omega) 1 (rfl) (by omega) dX5_prove_76 (upd (prN n (σ 0) (σ 13) j i) (3 * i + 0) (daysF n (σ 0) (i + 1) (8 + 5 * j + 3))) (su_at) ?_
            refine r_blk (blk' := wX cs h (su (su σ 2 (daysF n (σ 0) (i + 1))) 13 (upd (upd (prN n (σ 0) (σ 13) j i) (3 * i + 0) (daysF n (σ 0) (i + 1) (8 + 5 * j + 3))) (3 * i + 1) (daysF n (σ 0) (i + 1) (8 + 5 * j + 4))))) (congrArg (wX cs h) (by rw [su_su])) ?_
            refine r_iinc (pc := 77) C 2 0 [(4, .int 2), (0, .ref (h 0)), (1, .int (nI j)), (2, .int (nI t)), (3, .int (nI i))] dX5_prove_77 rfl ((by decide)) (by decide) rfl ?_
            refine r_goto (pc := 80) C 52 dX5_prove_80 (by decide) ?_
            refine r_iload (pc := 52) C 0 dX5_prove_52 rfl ?_
            refine r_iconst (pc := 54) C 3 dX5_prove_54 (by decide) ?_
            refine r_icmp_ge (pc := 55) C 83 dX5_prove_55 (by decide) (fun c_7 => ?_) (fun c_7 => ?_)
            · skip
              revert c_7; intro c_7
              exact absurd c_7 (by decide)
            · skip
              revert c_7; intro c_7
              refine r_aload_n (pc := 58) C 1 dX5_prove_58 rfl rfl ?_
              refine xg_rows (pc := 59) C fl_RX5_31 dX5_prove_59 ?_
              refine r_iload_n (pc := 62) C 4 dX5_prove_62 rfl rfl ?_
              refine xa_rows (pc := 63) C i (rfl) (by omega) dX5_prove_63 ?_
              refine r_iload (pc := 64) C 0 dX5_prove_64 rfl ?_
              refine r_aload_n (pc := 66) C 1 dX5_prove_66 rfl rfl ?_
              refine xg_tried (pc := 67) C fl_RX5_16 dX5_prove_67 ?_
              refine r_iload_n (pc := 70) C 2 dX5_prove_70 rfl rfl ?_
              refine r_iload (pc := 71) C 0 dX5_prove_71 rfl ?_
              refine rc_Vi (pc := 73) C (t_X0_partOfRow_2' l ad D cs (fun j => h (9 + j)) (fun _ => daysF n (σ 0) (i + 1)) (pre ++ xA_2 cs h (su (su σ 2 (daysF n (σ 0) (i + 1))) 13 (upd (upd (prN n (σ 0) (σ 13) j i) (3 * i + 0) (daysF n (σ 0) (i + 1) (8 + 5 * j + 3))) (3 * i + 1) (daysF n (σ 0) (i + 1) (8 + 5 * j + 4))))) (xC_2 cs h (su (su σ 2 (daysF n (σ 0) (i + 1))) 13 (upd (upd (prN n (σ 0) (σ 13) j i) (3 * i + 0) (daysF n (σ 0) (i + 1) (8 + 5 * j + 3))) (3 * i + 1) (daysF n (σ 0) (i + 1) (8 + 5 * j + 4)))) ++ post) (daysF n (σ 0) (i + 1)) rfl n j (daysF_0 hN) hn h_j) mv_X0_partOfRow ml_RX5_216 rfl ⟨Nat.le_of_ble_eq_true rfl, Nat.le_of_ble_eq_true rfl⟩ ⟨rfl, rfl⟩ (q0 := 0) rfl rfl rfl fx_2 fx_2.symm rfl (Nat.le_of_ble_eq_true rfl) dX5_prove_73 ?_
              refine xs_rw (pc := 76) C i (by omega) 2 (rfl) (by omega) dX5_prove_76 (upd (upd (prN n (σ 0) (σ 13) j i) (3 * i + 0) (daysF n (σ 0) (i + 1) (8 + 5 * j + 3))) (3 * i + 1) (daysF n (σ 0) (i + 1) (8 + 5 * j + 4))) (su_at) ?_
              refine r_blk (blk' := wX cs h (su (su σ 2 (daysF n (σ 0) (i + 1))) 13 (upd (upd (upd (prN n (σ 0) (σ 13) j i) (3 * i + 0) (daysF n (σ 0) (i + 1) (8 + 5 * j + 3))) (3 * i + 1) (daysF n (σ 0) (i + 1) (8 + 5 * j + 4))) (3 * i + 2) (onF (daysF n (σ 0) (i + 1)) n)))) (congrArg (wX cs h) (by rw [su_su])) ?_
              refine r_iinc (pc := 77) C 3 0 [(4, .int 3), (0, .ref (h 0)), (1, .int (nI j)), (2, .int (nI t)), (3, .int (nI i))] dX5_prove_77 rfl ((by decide)) (by decide) rfl ?_
              refine r_goto (pc := 80) C 52 dX5_prove_80 (by decide) ?_
              refine r_iload (pc := 52) C 0 dX5_prove_52 rfl ?_
              refine r_iconst (pc := 54) C 3 dX5_prove_54 (by decide) ?_
              refine r_icmp_ge (pc := 55) C 83 dX5_prove_55 (by decide) (fun c_8 => ?_) (fun c_8 => ?_)
              · skip
                revert c_8; intro c_8
                refine r_iinc (pc := 83) C (nI (i + 1)) 4 [(3, .int (nI (i + 1))), (4, .int 3), (0, .ref (h 0)), (1, .int (nI j)), (2, .int (nI t))] dX5_prove_83 rfl (nI_1 _) (by decide) rfl ?_
                refine r_goto (pc := 86) C 36 dX5_prove_86 (by decide) ?_
                refine r_pick (lv' := [(0, .ref (h 0)), (1, .int (nI j)), (2, .int (nI t)), (3, .int (nI (i + 1)))]) [2, 3, 4, 0] rfl ?_
                refine r_blk (blk' := wX cs h (su (su σ 2 (daysF n (σ 0) (i + 1))) 13 (prN n (σ 0) (σ 13) j (i + 1)))) (rfl) ?_
                exact ih_36 (by omega) (trivial)
              · skip
                revert c_8; intro c_8
                exact absurd c_8 (by decide)
    · skip
      have c_2 := bI_0.mp c_2
      refine r_iconst (pc := 21) C (-1) dX5_prove_21 (by decide) ?_
      exact r_iret (pc := 22) C hr hlk dX5_prove_22 rfl (by first | rfl | (simp [gateI, gateF, *]; done) | simp_all [gateI, gateF]) (by rw [show (gateF (oneB n (nI j) && inB k 1 10) (daysF n (σ 0) k.toNatClampNeg) (σ 2) : Nat → Int32) = σ 2 from (by first | rfl | (simp [gateI, gateF, *]; done) | simp_all [gateI, gateF]), show (gateF (oneB n (nI j) && inB k 1 10) (prN n (σ 0) (σ 13) (nI j).toNatClampNeg k.toNatClampNeg) (σ 13) : Nat → Int32) = σ 13 from (by first | rfl | (simp [gateI, gateF, *]; done) | simp_all [gateI, gateF]), show (gateF (oneB n (nI j) && inB k 1 10) (fun _ => k) (σ 14) : Nat → Int32) = σ 14 from (by first | rfl | (simp [gateI, gateF, *]; done) | simp_all [gateI, gateF])] <;> rfl)
theorem t_X5_prove' (l : Launch) (ad : Nat → Nat) (D : va_G) (cs : Nat → ClassId) (h : Nat → Nat) (σ : Nat → Nat → Int32) (pre post : va_W) (f0_ : Nat → Int32) (e0_ : σ 0 = f0_) (f2_ : Nat → Int32) (e2_ : σ 2 = f2_) (f13_ : Nat → Int32) (e13_ : σ 13 = f13_) (f14_ : Nat → Int32) (e14_ : σ 14 = f14_) (n : Nat) (o k : Int32) (hN : f0_ 0 = nI n) (hn : n ≤ 8) (hR : rgM n f0_) : CTi l yX5_prove cX5_prove 5 .int ({ frames := 5, cells := 0, slots := 0, locals := 114 }) ad D (tysW cs) (pre ++ (wX cs h σ ++ post)) [.ref (h 0), .int o, .int k] (gateI (oneB n o && inB k 1 10) k (-1)) (pre ++ (wX cs h (su (su (su σ 2 (gateF (oneB n o && inB k 1 10) (daysF n f0_ k.toNatClampNeg) (f2_))) 13 (gateF (oneB n o && inB k 1 10) (prN n f0_ (f13_) o.toNatClampNeg k.toNatClampNeg) (f13_))) 14 (gateF (oneB n o && inB k 1 10) (fun _ => k) (f14_))) ++ post)) := by
  subst e0_; subst e2_; subst e13_; subst e14_
  exact t_X5_prove l ad D cs h σ pre post n o k hN hn hR
theorem dX5_judge_0 : decode cX5_judge 0 = .ok (.aload_n 0, 1) := by decide +kernel
theorem dX5_judge_1 : decode cX5_judge 1 = .ok (.getfield 10, 3) := by decide +kernel
theorem dX5_judge_4 : decode cX5_judge 4 = .ok (.iload_n 1, 1) := by decide +kernel
theorem dX5_judge_5 : decode cX5_judge 5 = .ok (.invokevirtual 116, 3) := by decide +kernel
theorem dX5_judge_8 : decode cX5_judge 8 = .ok (.ifCond .ne 5, 3) := by decide +kernel
theorem dX5_judge_11 : decode cX5_judge 11 = .ok (.iconst (-1), 1) := by decide +kernel
theorem dX5_judge_12 : decode cX5_judge 12 = .ok (.ireturn, 1) := by decide +kernel
theorem dX5_judge_13 : decode cX5_judge 13 = .ok (.aload_n 0, 1) := by decide +kernel
theorem dX5_judge_14 : decode cX5_judge 14 = .ok (.getfield 16, 3) := by decide +kernel
theorem dX5_judge_17 : decode cX5_judge 17 = .ok (.aload_n 0, 1) := by decide +kernel
theorem dX5_judge_18 : decode cX5_judge 18 = .ok (.getfield 10, 3) := by decide +kernel
theorem dX5_judge_21 : decode cX5_judge 21 = .ok (.invokevirtual 81, 3) := by decide +kernel
theorem dX5_judge_24 : decode cX5_judge 24 = .ok (.iconst 0, 1) := by decide +kernel
theorem dX5_judge_25 : decode cX5_judge 25 = .ok (.istore_n 2, 1) := by decide +kernel
theorem dX5_judge_26 : decode cX5_judge 26 = .ok (.iload_n 2, 1) := by decide +kernel
theorem dX5_judge_27 : decode cX5_judge 27 = .ok (.aload_n 0, 1) := by decide +kernel
theorem dX5_judge_28 : decode cX5_judge 28 = .ok (.getfield 85, 3) := by decide +kernel
theorem dX5_judge_31 : decode cX5_judge 31 = .ok (.if_icmp .ge 54, 3) := by decide +kernel
theorem dX5_judge_34 : decode cX5_judge 34 = .ok (.aload_n 0, 1) := by decide +kernel
theorem dX5_judge_35 : decode cX5_judge 35 = .ok (.getfield 16, 3) := by decide +kernel
theorem dX5_judge_38 : decode cX5_judge 38 = .ok (.iconst 1, 1) := by decide +kernel
theorem dX5_judge_39 : decode cX5_judge 39 = .ok (.invokevirtual 142, 3) := by decide +kernel
theorem dX5_judge_42 : decode cX5_judge 42 = .ok (.iconst 0, 1) := by decide +kernel
theorem dX5_judge_43 : decode cX5_judge 43 = .ok (.istore_n 3, 1) := by decide +kernel
theorem dX5_judge_44 : decode cX5_judge 44 = .ok (.iload_n 3, 1) := by decide +kernel
theorem dX5_judge_45 : decode cX5_judge 45 = .ok (.iconst 3, 1) := by decide +kernel
theorem dX5_judge_46 : decode cX5_judge 46 = .ok (.if_icmp .ge 33, 3) := by decide +kernel
theorem dX5_judge_49 : decode cX5_judge 49 = .ok (.aload_n 0, 1) := by decide +kernel
theorem dX5_judge_50 : decode cX5_judge 50 = .ok (.getfield 31, 3) := by decide +kernel
theorem dX5_judge_53 : decode cX5_judge 53 = .ok (.iload_n 2, 1) := by decide +kernel
theorem dX5_judge_54 : decode cX5_judge 54 = .ok (.aaload, 1) := by decide +kernel
theorem dX5_judge_55 : decode cX5_judge 55 = .ok (.iload_n 3, 1) := by decide +kernel
theorem dX5_judge_56 : decode cX5_judge 56 = .ok (.iaload, 1) := by decide +kernel
theorem dX5_judge_57 : decode cX5_judge 57 = .ok (.aload_n 0, 1) := by decide +kernel
theorem dX5_judge_58 : decode cX5_judge 58 = .ok (.getfield 16, 3) := by decide +kernel
theorem dX5_judge_61 : decode cX5_judge 61 = .ok (.iload_n 1, 1) := by decide +kernel
theorem dX5_judge_62 : decode cX5_judge 62 = .ok (.iload_n 3, 1) := by decide +kernel
theorem dX5_judge_63 : decode cX5_judge 63 = .ok (.invokevirtual 216, 3) := by decide +kernel
theorem dX5_judge_66 : decode cX5_judge 66 = .ok (.if_icmp .eq 7, 3) := by decide +kernel
theorem dX5_judge_69 : decode cX5_judge 69 = .ok (.iload_n 2, 1) := by decide +kernel
theorem dX5_judge_70 : decode cX5_judge 70 = .ok (.iconst 1, 1) := by decide +kernel
theorem dX5_judge_71 : decode cX5_judge 71 = .ok (.iadd, 1) := by decide +kernel
theorem dX5_judge_72 : decode cX5_judge 72 = .ok (.ireturn, 1) := by decide +kernel
theorem dX5_judge_73 : decode cX5_judge 73 = .ok (.iinc 3 1, 3) := by decide +kernel
theorem dX5_judge_76 : decode cX5_judge 76 = .ok (.goto (-32), 3) := by decide +kernel
theorem dX5_judge_79 : decode cX5_judge 79 = .ok (.iinc 2 1, 3) := by decide +kernel
theorem dX5_judge_82 : decode cX5_judge 82 = .ok (.goto (-56), 3) := by decide +kernel
theorem dX5_judge_85 : decode cX5_judge 85 = .ok (.iconst 0, 1) := by decide +kernel
theorem dX5_judge_86 : decode cX5_judge 86 = .ok (.ireturn, 1) := by decide +kernel
set_option maxHeartbeats 400000 in
set_option maxRecDepth 20000 in
theorem t_X5_judge (l : Launch) (ad : Nat → Nat) (D : va_G) (cs : Nat → ClassId) (h : Nat → Nat) (σ : Nat → Nat → Int32) (pre post : va_W) (n : Nat) (y : Nat) (o : Int32) (hN : σ 0 0 = nI n) (hn : n ≤ 8) (hR : rgM n (σ 0)) (hY : σ 14 0 = nI y) (hy0 : y ≤ 10) : CTi l yX5_judge cX5_judge 4 .int ({ frames := 5, cells := 0, slots := 0, locals := 114 }) ad D (tysW cs) (pre ++ (wX cs h σ ++ post)) [.ref (h 0), .int o] (gateI (oneB n o) (jdF (jdB n (σ 0) (σ 13) o.toNatClampNeg) 0 y) (-1)) (pre ++ (wX cs h (su σ 2 (gateF (oneB n o) (daysF n (σ 0) (tdI (jdB n (σ 0) (σ 13) o.toNatClampNeg) 0 y)) (σ 2))) ++ post)) := by
  refine CTi.of (lv0 := [(0, .ref (h 0)), (1, .int o)]) (by decide) rfl (Nat.le_of_ble_eq_true rfl) (fun p e s m args below meth c A C hr hlk => ?_)
  have C : Cx p s m args c cX5_judge 4 RX5 ad D (tysW cs) A := C
  refine r_aload_n (pc := 0) C 0 dX5_judge_0 rfl rfl ?_
  refine xg_now (pc := 1) C fl_RX5_10 dX5_judge_1 ?_
  refine r_iload_n (pc := 4) C 1 dX5_judge_4 rfl rfl ?_
  refine rc_Vi (pc := 5) C (t_X0_exists' l ad D cs (fun j => h (1 + j)) (fun _ => σ 0) (pre ++ xA_0 cs h σ) (xC_0 cs h σ ++ post) (σ 0) rfl n o hN hn) mv_X0_exists ml_RX5_116 rfl ⟨Nat.le_of_ble_eq_true rfl, Nat.le_of_ble_eq_true rfl⟩ ⟨rfl, rfl⟩ (q0 := 0) rfl rfl rfl fx_0 fx_0.symm rfl (Nat.le_of_ble_eq_true rfl) dX5_judge_5 ?_
  refine r_if_ne (pc := 8) C 13 dX5_judge_8 (by decide) (fun c_1 => ?_) (fun c_1 => ?_)
  · skip
    have c_1 := bI_n.mp c_1
    obtain ⟨j, h_j, rfl⟩ := one_nat (by omega) c_1
    have e_j : (nI j).toNatClampNeg = j := nI_clamp (by omega)
    refine r_aload_n (pc := 13) C 0 dX5_judge_13 rfl rfl ?_
    refine xg_tried (pc := 14) C fl_RX5_16 dX5_judge_14 ?_
    refine r_aload_n (pc := 17) C 0 dX5_judge_17 rfl rfl ?_
    refine xg_now (pc := 18) C fl_RX5_10 dX5_judge_18 ?_
    refine rc_Vv (pc := 21) C (t_X0_copyFrom_0_2' l ad D cs h σ pre post (σ 0) (rfl)  ) mv_X0_copyFrom ml_RX5_81 rfl ⟨Nat.le_of_ble_eq_true rfl, Nat.le_of_ble_eq_true rfl⟩ ⟨rfl, rfl⟩ (q0 := 9) rfl rfl rfl rfl rfl rfl (Nat.le_of_ble_eq_true rfl) dX5_judge_21 ?_
    refine r_iconst (pc := 24) C 0 dX5_judge_24 (by decide) ?_
    refine r_istore_n (pc := 25) C [(2, .int 0), (0, .ref (h 0)), (1, .int (nI j))] dX5_judge_25 rfl (by decide) rfl ?_
    refine r_pick (lv' := [(0, .ref (h 0)), (1, .int (nI j)), (2, .int 0)]) [1, 2, 0] rfl ?_
    refine r_blk (blk' := wX cs h (su σ 2 (daysF n (σ 0) 0))) (rfl) ?_
    refine r_loop (blkf := fun i => wX cs h (su σ 2 (daysF n (σ 0) i))) (lvf := fun i => [(0, .ref (h 0)), (1, .int (nI j)), (2, .int (nI i))]) (fun i => jdF (jdB n (σ 0) (σ 13) j) 0 y = jdF (jdB n (σ 0) (σ 13) j) i (y - i) ∧ tdI (jdB n (σ 0) (σ 13) j) 0 y = tdI (jdB n (σ 0) (σ 13) j) i (y - i)) y 0 (by omega) (⟨rfl, rfl⟩) (fun i h_i hx ih_26 => ?_)
    show VX p l e _ s m args below meth c _ D A 4 pre (wX cs h (su σ 2 (daysF n (σ 0) i))) post 26 [(0, .ref (h 0)), (1, .int (nI j)), (2, .int (nI i))] []
    refine r_iload_n (pc := 26) C 2 dX5_judge_26 rfl rfl ?_
    refine r_aload_n (pc := 27) C 0 dX5_judge_27 rfl rfl ?_
    refine xg_rowCount (pc := 28) C fl_RX5_85 dX5_judge_28 (σ 14 0) (congrFun ((su_nn (by decide))) 0) ?_
    refine r_eqi (y := nI y) (hY) ?_
    refine r_icmp_ge (pc := 31) C 85 dX5_judge_31 (by decide) (fun c_2 => ?_) (fun c_2 => ?_)
    · skip
      have c_2 := nIc_ge_t (a := i) (b := y) (by omega) (by omega) c_2
      obtain rfl : y = i := by omega
      refine r_iconst (pc := 85) C 0 dX5_judge_85 (by decide) ?_
      exact r_iret (pc := 86) C hr hlk dX5_judge_86 rfl (by rw [gateI_t (by simp [*]), e_j, hx.1]; exact jd_end.symm) (by rw [show (gateF (oneB n (nI j)) (daysF n (σ 0) (tdI (jdB n (σ 0) (σ 13) (nI j).toNatClampNeg) 0 y)) (σ 2) : Nat → Int32) = daysF n (σ 0) y from (by rw [gateF_t (by simp [*]), e_j, hx.2, ti_end])] <;> rfl)
    · skip
      have c_2 := nIc_ge_f (a := i) (b := y) (by omega) (by omega) c_2
      refine r_aload_n (pc := 34) C 0 dX5_judge_34 rfl rfl ?_
      refine xg_tried (pc := 35) C fl_RX5_16 dX5_judge_35 ?_
      refine r_iconst (pc := 38) C 1 dX5_judge_38 (by decide) ?_
      refine rc_Vv (pc := 39) C (t_X0_passDays' l ad D cs (fun j => h (9 + j)) (fun _ => daysF n (σ 0) i) (pre ++ xA_2 cs h (su σ 2 (daysF n (σ 0) i))) (xC_2 cs h (su σ 2 (daysF n (σ 0) i)) ++ post) (daysF n (σ 0) i) rfl n 1 (daysF_0 hN) hn (rg_days hR i) (by omega)) mv_X0_passDays ml_RX5_142 rfl ⟨Nat.le_of_ble_eq_true rfl, Nat.le_of_ble_eq_true rfl⟩ ⟨rfl, rfl⟩ (q0 := 0) rfl rfl rfl fx_2 (bx_2 _) rfl (Nat.le_of_ble_eq_true rfl) dX5_judge_39 ?_
      refine r_blk (blk' := wX cs h (su σ 2 (daysF n (daysF n (σ 0) i) 1))) (congrArg (wX cs h) (by rw [su_su (k := 2)])) ?_
      have f_3 : daysF n (daysF n (σ 0) i) 1 0 = nI n := daysF_0 (daysF_0 hN)
      refine r_blk (blk' := wX cs h (su σ 2 (daysF n (σ 0) (i + 1)))) (rfl) ?_
      refine r_iconst (pc := 42) C 0 dX5_judge_42 (by decide) ?_
      refine r_istore_n (pc := 43) C [(3, .int 0), (0, .ref (h 0)), (1, .int (nI j)), (2, .int (nI i))] dX5_judge_43 rfl (by decide) rfl ?_
      refine r_iload_n (pc := 44) C 0 dX5_judge_44 rfl rfl ?_
      refine r_iconst (pc := 45) C 3 dX5_judge_45 (by decide) ?_
      refine r_icmp_ge (pc := 46) C 79 dX5_judge_46 (by decide) (fun c_4 => ?_) (fun c_4 => ?_)
      · skip
        revert c_4; intro c_4
        exact absurd c_4 (by decide)
      · skip
        revert c_4; intro c_4
        refine r_aload_n (pc := 49) C 1 dX5_judge_49 rfl rfl ?_
        refine xg_rows (pc := 50) C fl_RX5_31 dX5_judge_50 ?_
        refine r_iload_n (pc := 53) C 3 dX5_judge_53 rfl rfl ?_
        refine xa_rows (pc := 54) C i (rfl) (by omega) dX5_judge_54 ?_
        refine r_iload_n (pc := 55) C 0 dX5_judge_55 rfl rfl ?_
        refine xl_rw (pc := 56) C i (by omega) 0 (rfl) (by omega) dX5_judge_56 (σ 13 (3 * i + 0)) (congrFun ((su_nn (by decide))) _) ?_
        refine r_aload_n (pc := 57) C 1 dX5_judge_57 rfl rfl ?_
        refine xg_tried (pc := 58) C fl_RX5_16 dX5_judge_58 ?_
        refine r_iload_n (pc := 61) C 2 dX5_judge_61 rfl rfl ?_
        refine r_iload_n (pc := 62) C 0 dX5_judge_62 rfl rfl ?_
        refine rc_Vi (pc := 63) C (t_X0_partOfRow_0' l ad D cs (fun j => h (9 + j)) (fun _ => daysF n (σ 0) (i + 1)) (pre ++ xA_2 cs h (su σ 2 (daysF n (σ 0) (i + 1)))) (xC_2 cs h (su σ 2 (daysF n (σ 0) (i + 1))) ++ post) (daysF n (σ 0) (i + 1)) rfl n j (daysF_0 hN) hn h_j) mv_X0_partOfRow ml_RX5_216 rfl ⟨Nat.le_of_ble_eq_true rfl, Nat.le_of_ble_eq_true rfl⟩ ⟨rfl, rfl⟩ (q0 := 0) rfl rfl rfl fx_2 fx_2.symm rfl (Nat.le_of_ble_eq_true rfl) dX5_judge_63 ?_
        refine r_icmp_eq (pc := 66) C 73 dX5_judge_66 (by decide) (fun c_5 => ?_) (fun c_5 => ?_)
        · skip
          refine r_iinc (pc := 73) C 1 0 [(3, .int 1), (0, .ref (h 0)), (1, .int (nI j)), (2, .int (nI i))] dX5_judge_73 rfl ((by decide)) (by decide) rfl ?_
          refine r_goto (pc := 76) C 44 dX5_judge_76 (by decide) ?_
          refine r_iload_n (pc := 44) C 0 dX5_judge_44 rfl rfl ?_
          refine r_iconst (pc := 45) C 3 dX5_judge_45 (by decide) ?_
          refine r_icmp_ge (pc := 46) C 79 dX5_judge_46 (by decide) (fun c_6 => ?_) (fun c_6 => ?_)
          · skip
            revert c_6; intro c_6
            exact absurd c_6 (by decide)
          · skip
            revert c_6; intro c_6
            refine r_aload_n (pc := 49) C 1 dX5_judge_49 rfl rfl ?_
            refine xg_rows (pc := 50) C fl_RX5_31 dX5_judge_50 ?_
            refine r_iload_n (pc := 53) C 3 dX5_judge_53 rfl rfl ?_
            refine xa_rows (pc := 54) C i (rfl) (by omega) dX5_judge_54 ?_
            refine r_iload_n (pc := 55) C 0 dX5_judge_55 rfl rfl ?_
            refine xl_rw (pc := 56) C i (by omega) 1 (rfl) (by omega) dX5_judge_56 (σ 13 (3 * i + 1)) (congrFun ((su_nn (by decide))) _) ?_
            refine r_aload_n (pc := 57) C 1 dX5_judge_57 rfl rfl ?_
            refine xg_tried (pc := 58) C fl_RX5_16 dX5_judge_58 ?_
            refine r_iload_n (pc := 61) C 2 dX5_judge_61 rfl rfl ?_
            refine r_iload_n (pc := 62) C 0 dX5_judge_62 rfl rfl ?_
            refine rc_Vi (pc := 63) C (t_X0_partOfRow_1' l ad D cs (fun j => h (9 + j)) (fun _ => daysF n (σ 0) (i + 1)) (pre ++ xA_2 cs h (su σ 2 (daysF n (σ 0) (i + 1)))) (xC_2 cs h (su σ 2 (daysF n (σ 0) (i + 1))) ++ post) (daysF n (σ 0) (i + 1)) rfl n j (daysF_0 hN) hn h_j) mv_X0_partOfRow ml_RX5_216 rfl ⟨Nat.le_of_ble_eq_true rfl, Nat.le_of_ble_eq_true rfl⟩ ⟨rfl, rfl⟩ (q0 := 0) rfl rfl rfl fx_2 fx_2.symm rfl (Nat.le_of_ble_eq_true rfl) dX5_judge_63 ?_
            refine r_icmp_eq (pc := 66) C 73 dX5_judge_66 (by decide) (fun c_7 => ?_) (fun c_7 => ?_)
            · skip
              refine r_iinc (pc := 73) C 2 0 [(3, .int 2), (0, .ref (h 0)), (1, .int (nI j)), (2, .int (nI i))] dX5_judge_73 rfl ((by decide)) (by decide) rfl ?_
              refine r_goto (pc := 76) C 44 dX5_judge_76 (by decide) ?_
              refine r_iload_n (pc := 44) C 0 dX5_judge_44 rfl rfl ?_
              refine r_iconst (pc := 45) C 3 dX5_judge_45 (by decide) ?_
              refine r_icmp_ge (pc := 46) C 79 dX5_judge_46 (by decide) (fun c_8 => ?_) (fun c_8 => ?_)
              · skip
                revert c_8; intro c_8
                exact absurd c_8 (by decide)
              · skip
                revert c_8; intro c_8
                refine r_aload_n (pc := 49) C 1 dX5_judge_49 rfl rfl ?_
                refine xg_rows (pc := 50) C fl_RX5_31 dX5_judge_50 ?_
                refine r_iload_n (pc := 53) C 3 dX5_judge_53 rfl rfl ?_
                refine xa_rows (pc := 54) C i (rfl) (by omega) dX5_judge_54 ?_
                refine r_iload_n (pc := 55) C 0 dX5_judge_55 rfl rfl ?_
                refine xl_rw (pc := 56) C i (by omega) 2 (rfl) (by omega) dX5_judge_56 (σ 13 (3 * i + 2)) (congrFun ((su_nn (by decide))) _) ?_
                refine r_aload_n (pc := 57) C 1 dX5_judge_57 rfl rfl ?_
                refine xg_tried (pc := 58) C fl_RX5_16 dX5_judge_58 ?_
                refine r_iload_n (pc := 61) C 2 dX5_judge_61 rfl rfl ?_
                refine r_iload_n (pc := 62) C 0 dX5_judge_62 rfl rfl ?_
                refine rc_Vi (pc := 63) C (t_X0_partOfRow_2' l ad D cs (fun j => h (9 + j)) (fun _ => daysF n (σ 0) (i + 1)) (pre ++ xA_2 cs h (su σ 2 (daysF n (σ 0) (i + 1)))) (xC_2 cs h (su σ 2 (daysF n (σ 0) (i + 1))) ++ post) (daysF n (σ 0) (i + 1)) rfl n j (daysF_0 hN) hn h_j) mv_X0_partOfRow ml_RX5_216 rfl ⟨Nat.le_of_ble_eq_true rfl, Nat.le_of_ble_eq_true rfl⟩ ⟨rfl, rfl⟩ (q0 := 0) rfl rfl rfl fx_2 fx_2.symm rfl (Nat.le_of_ble_eq_true rfl) dX5_judge_63 ?_
                refine r_icmp_eq (pc := 66) C 73 dX5_judge_66 (by decide) (fun c_9 => ?_) (fun c_9 => ?_)
                · skip
                  refine r_iinc (pc := 73) C 3 0 [(3, .int 3), (0, .ref (h 0)), (1, .int (nI j)), (2, .int (nI i))] dX5_judge_73 rfl ((by decide)) (by decide) rfl ?_
                  refine r_goto (pc := 76) C 44 dX5_judge_76 (by decide) ?_
                  refine r_iload_n (pc := 44) C 0 dX5_judge_44 rfl rfl ?_
                  refine r_iconst (pc := 45) C 3 dX5_judge_45 (by decide) ?_
                  refine r_icmp_ge (pc := 46) C 79 dX5_judge_46 (by decide) (fun c_10 => ?_) (fun c_10 => ?_)
                  · skip
                    revert c_10; intro c_10
                    refine r_iinc (pc := 79) C (nI (i + 1)) 3 [(2, .int (nI (i + 1))), (3, .int 3), (0, .ref (h 0)), (1, .int (nI j))] dX5_judge_79 rfl (nI_1 _) (by decide) rfl ?_
                    refine r_goto (pc := 82) C 26 dX5_judge_82 (by decide) ?_
                    refine r_pick (lv' := [(0, .ref (h 0)), (1, .int (nI j)), (2, .int (nI (i + 1)))]) [2, 3, 0] rfl ?_
                    exact ih_26 (by omega) (⟨hx.1.trans (jd_next (by omega) (by simp_all [jdB])), hx.2.trans (ti_next (by omega) (by simp_all [jdB]))⟩)
                  · skip
                    revert c_10; intro c_10
                    exact absurd c_10 (by decide)
                · skip
                  refine r_iload_n (pc := 69) C 3 dX5_judge_69 rfl rfl ?_
                  refine r_iconst (pc := 70) C 1 dX5_judge_70 (by decide) ?_
                  refine r_iadd (pc := 71) C dX5_judge_71 ?_
                  refine r_eqi (y := nI (i + 1)) (nI_add i 1) ?_
                  exact r_iret (pc := 72) C hr hlk dX5_judge_72 rfl (by rw [gateI_t (by simp [*]), e_j, hx.1]; exact (jd_hit (by omega) (by simp_all [jdB])).symm) (by rw [show (gateF (oneB n (nI j)) (daysF n (σ 0) (tdI (jdB n (σ 0) (σ 13) (nI j).toNatClampNeg) 0 y)) (σ 2) : Nat → Int32) = daysF n (σ 0) (i + 1) from (by rw [gateF_t (by simp [*]), e_j, hx.2, ti_hit (by omega) (by simp_all [jdB])])] <;> rfl)
            · skip
              refine r_iload_n (pc := 69) C 3 dX5_judge_69 rfl rfl ?_
              refine r_iconst (pc := 70) C 1 dX5_judge_70 (by decide) ?_
              refine r_iadd (pc := 71) C dX5_judge_71 ?_
              refine r_eqi (y := nI (i + 1)) (nI_add i 1) ?_
              exact r_iret (pc := 72) C hr hlk dX5_judge_72 rfl (by rw [gateI_t (by simp [*]), e_j, hx.1]; exact (jd_hit (by omega) (by simp_all [jdB])).symm) (by rw [show (gateF (oneB n (nI j)) (daysF n (σ 0) (tdI (jdB n (σ 0) (σ 13) (nI j).toNatClampNeg) 0 y)) (σ 2) : Nat → Int32) = daysF n (σ 0) (i + 1) from (by rw [gateF_t (by simp [*]), e_j, hx.2, ti_hit (by omega) (by simp_all [jdB])])] <;> rfl)
        · skip
          refine r_iload_n (pc := 69) C 3 dX5_judge_69 rfl rfl ?_
          refine r_iconst (pc := 70) C 1 dX5_judge_70 (by decide) ?_
          refine r_iadd (pc := 71) C dX5_judge_71 ?_
          refine r_eqi (y := nI (i + 1)) (nI_add i 1) ?_
          exact r_iret (pc := 72) C hr hlk dX5_judge_72 rfl (by rw [gateI_t (by simp [*]), e_j, hx.1]; exact (jd_hit (by omega) (by simp_all [jdB])).symm) (by rw [show (gateF (oneB n (nI j)) (daysF n (σ 0) (tdI (jdB n (σ 0) (σ 13) (nI j).toNatClampNeg) 0 y)) (σ 2) : Nat → Int32) = daysF n (σ 0) (i + 1) from (by rw [gateF_t (by simp [*]), e_j, hx.2, ti_hit (by omega) (by simp_all [jdB])])] <;> rfl)
  · skip
    have c_1 := bI_0.mp c_1
    refine r_iconst (pc := 11) C (-1) dX5_judge_11 (by decide) ?_
    exact r_iret (pc := 12) C hr hlk dX5_judge_12 rfl (by simp [gateI, *]) (by rw [show gateF (_) (_) (σ 2) = σ 2 from (by first | (simp [gateF, *]; done) | simp_all [gateF])] <;> rfl)
theorem t_X5_judge' (l : Launch) (ad : Nat → Nat) (D : va_G) (cs : Nat → ClassId) (h : Nat → Nat) (σ : Nat → Nat → Int32) (pre post : va_W) (f0_ : Nat → Int32) (e0_ : σ 0 = f0_) (f2_ : Nat → Int32) (e2_ : σ 2 = f2_) (f13_ : Nat → Int32) (e13_ : σ 13 = f13_) (f14_ : Nat → Int32) (e14_ : σ 14 = f14_) (n : Nat) (y : Nat) (o : Int32) (hN : f0_ 0 = nI n) (hn : n ≤ 8) (hR : rgM n f0_) (hY : f14_ 0 = nI y) (hy0 : y ≤ 10) : CTi l yX5_judge cX5_judge 4 .int ({ frames := 5, cells := 0, slots := 0, locals := 114 }) ad D (tysW cs) (pre ++ (wX cs h σ ++ post)) [.ref (h 0), .int o] (gateI (oneB n o) (jdF (jdB n f0_ (f13_) o.toNatClampNeg) 0 y) (-1)) (pre ++ (wX cs h (su σ 2 (gateF (oneB n o) (daysF n f0_ (tdI (jdB n f0_ (f13_) o.toNatClampNeg) 0 y)) (f2_))) ++ post)) := by
  subst e0_; subst e2_; subst e13_; subst e14_
  exact t_X5_judge l ad D cs h σ pre post n y o hN hn hR hY hy0
theorem dX5_isFitting_0 : decode cX5_isFitting 0 = .ok (.aload_n 0, 1) := by decide +kernel
theorem dX5_isFitting_1 : decode cX5_isFitting 1 = .ok (.getfield 16, 3) := by decide +kernel
theorem dX5_isFitting_4 : decode cX5_isFitting 4 = .ok (.aload_n 0, 1) := by decide +kernel
theorem dX5_isFitting_5 : decode cX5_isFitting 5 = .ok (.getfield 10, 3) := by decide +kernel
theorem dX5_isFitting_8 : decode cX5_isFitting 8 = .ok (.invokevirtual 81, 3) := by decide +kernel
theorem dX5_isFitting_11 : decode cX5_isFitting 11 = .ok (.aload_n 0, 1) := by decide +kernel
theorem dX5_isFitting_12 : decode cX5_isFitting 12 = .ok (.getfield 16, 3) := by decide +kernel
theorem dX5_isFitting_15 : decode cX5_isFitting 15 = .ok (.getfield 113, 3) := by decide +kernel
theorem dX5_isFitting_18 : decode cX5_isFitting 18 = .ok (.iconst 3, 1) := by decide +kernel
theorem dX5_isFitting_19 : decode cX5_isFitting 19 = .ok (.aaload, 1) := by decide +kernel
theorem dX5_isFitting_20 : decode cX5_isFitting 20 = .ok (.iload_n 2, 1) := by decide +kernel
theorem dX5_isFitting_21 : decode cX5_isFitting 21 = .ok (.iload_n 3, 1) := by decide +kernel
theorem dX5_isFitting_22 : decode cX5_isFitting 22 = .ok (.iastore, 1) := by decide +kernel
theorem dX5_isFitting_23 : decode cX5_isFitting 23 = .ok (.iconst 0, 1) := by decide +kernel
theorem dX5_isFitting_24 : decode cX5_isFitting 24 = .ok (.istore 4, 2) := by decide +kernel
theorem dX5_isFitting_26 : decode cX5_isFitting 26 = .ok (.iload 4, 2) := by decide +kernel
theorem dX5_isFitting_28 : decode cX5_isFitting 28 = .ok (.aload_n 1, 1) := by decide +kernel
theorem dX5_isFitting_29 : decode cX5_isFitting 29 = .ok (.getfield 222, 3) := by decide +kernel
theorem dX5_isFitting_32 : decode cX5_isFitting 32 = .ok (.if_icmp .ge 56, 3) := by decide +kernel
theorem dX5_isFitting_35 : decode cX5_isFitting 35 = .ok (.aload_n 0, 1) := by decide +kernel
theorem dX5_isFitting_36 : decode cX5_isFitting 36 = .ok (.getfield 16, 3) := by decide +kernel
theorem dX5_isFitting_39 : decode cX5_isFitting 39 = .ok (.iconst 1, 1) := by decide +kernel
theorem dX5_isFitting_40 : decode cX5_isFitting 40 = .ok (.invokevirtual 142, 3) := by decide +kernel
theorem dX5_isFitting_43 : decode cX5_isFitting 43 = .ok (.aload_n 1, 1) := by decide +kernel
theorem dX5_isFitting_44 : decode cX5_isFitting 44 = .ok (.getfield 223, 3) := by decide +kernel
theorem dX5_isFitting_47 : decode cX5_isFitting 47 = .ok (.iload 4, 2) := by decide +kernel
theorem dX5_isFitting_49 : decode cX5_isFitting 49 = .ok (.laload, 1) := by decide +kernel
theorem dX5_isFitting_50 : decode cX5_isFitting 50 = .ok (.ldc2_w 200, 3) := by decide +kernel
theorem dX5_isFitting_53 : decode cX5_isFitting 53 = .ok (.lcmp, 1) := by decide +kernel
theorem dX5_isFitting_54 : decode cX5_isFitting 54 = .ok (.ifCond .eq 28, 3) := by decide +kernel
theorem dX5_isFitting_57 : decode cX5_isFitting 57 = .ok (.aload_n 1, 1) := by decide +kernel
theorem dX5_isFitting_58 : decode cX5_isFitting 58 = .ok (.getfield 223, 3) := by decide +kernel
theorem dX5_isFitting_61 : decode cX5_isFitting 61 = .ok (.iload 4, 2) := by decide +kernel
theorem dX5_isFitting_63 : decode cX5_isFitting 63 = .ok (.laload, 1) := by decide +kernel
theorem dX5_isFitting_64 : decode cX5_isFitting 64 = .ok (.aload_n 0, 1) := by decide +kernel
theorem dX5_isFitting_65 : decode cX5_isFitting 65 = .ok (.getfield 16, 3) := by decide +kernel
theorem dX5_isFitting_68 : decode cX5_isFitting 68 = .ok (.getfield 113, 3) := by decide +kernel
theorem dX5_isFitting_71 : decode cX5_isFitting 71 = .ok (.iconst 4, 1) := by decide +kernel
theorem dX5_isFitting_72 : decode cX5_isFitting 72 = .ok (.aaload, 1) := by decide +kernel
theorem dX5_isFitting_73 : decode cX5_isFitting 73 = .ok (.iload_n 2, 1) := by decide +kernel
theorem dX5_isFitting_74 : decode cX5_isFitting 74 = .ok (.iaload, 1) := by decide +kernel
theorem dX5_isFitting_75 : decode cX5_isFitting 75 = .ok (.i2l, 1) := by decide +kernel
theorem dX5_isFitting_76 : decode cX5_isFitting 76 = .ok (.lcmp, 1) := by decide +kernel
theorem dX5_isFitting_77 : decode cX5_isFitting 77 = .ok (.ifCond .eq 5, 3) := by decide +kernel
theorem dX5_isFitting_80 : decode cX5_isFitting 80 = .ok (.iconst 0, 1) := by decide +kernel
theorem dX5_isFitting_81 : decode cX5_isFitting 81 = .ok (.ireturn, 1) := by decide +kernel
theorem dX5_isFitting_82 : decode cX5_isFitting 82 = .ok (.iinc 4 1, 3) := by decide +kernel
theorem dX5_isFitting_85 : decode cX5_isFitting 85 = .ok (.goto (-59), 3) := by decide +kernel
theorem dX5_isFitting_88 : decode cX5_isFitting 88 = .ok (.iconst 1, 1) := by decide +kernel
theorem dX5_isFitting_89 : decode cX5_isFitting 89 = .ok (.ireturn, 1) := by decide +kernel
set_option maxHeartbeats 400000 in
set_option maxRecDepth 20000 in
theorem t_X5_isFitting (l : Launch) (ad : Nat → Nat) (D : va_G) (cs : Nat → ClassId) (h : Nat → Nat) (σ : Nat → Nat → Int32) (pre post : va_W) (n g o u z : Nat) (hN : σ 0 0 = nI n) (hn : n ≤ 8) (hR : rgM n (σ 0)) (hg : g < 4) (ho : o < n) (hu : u ≤ 99) (hZ : σ 16 g = nI z) (hz0 : z ≤ 40) : CTi l yX5_isFitting cX5_isFitting 5 .boolean ({ frames := 5, cells := 0, slots := 0, locals := 114 }) ad D (tysW cs) (pre ++ (wX cs h σ ++ post)) [.ref (h 0), .ref (h (47 + g)), .int (nI o), .int (nI u)] (bI (tdB (tdP n (upd (σ 0) (8 + 5 * o + 3) (nI u)) (σ 17) o g) 0 z = true)) (pre ++ (wX cs h (su σ 2 (daysF n (upd (σ 0) (8 + 5 * o + 3) (nI u)) (tdI (tdP n (upd (σ 0) (8 + 5 * o + 3) (nI u)) (σ 17) o g) 0 z))) ++ post)) := by
  refine CTi.of (lv0 := [(0, .ref (h 0)), (1, .ref (h (47 + g))), (2, .int (nI o)), (3, .int (nI u))]) (by decide) rfl (Nat.le_of_ble_eq_true rfl) (fun p e s m args below meth c A C hr hlk => ?_)
  have C : Cx p s m args c cX5_isFitting 5 RX5 ad D (tysW cs) A := C
  refine r_aload_n (pc := 0) C 0 dX5_isFitting_0 rfl rfl ?_
  refine xg_tried (pc := 1) C fl_RX5_16 dX5_isFitting_1 ?_
  refine r_aload_n (pc := 4) C 0 dX5_isFitting_4 rfl rfl ?_
  refine xg_now (pc := 5) C fl_RX5_10 dX5_isFitting_5 ?_
  refine rc_Vv (pc := 8) C (t_X0_copyFrom_0_2' l ad D cs h σ pre post (σ 0) (rfl)  ) mv_X0_copyFrom ml_RX5_81 rfl ⟨Nat.le_of_ble_eq_true rfl, Nat.le_of_ble_eq_true rfl⟩ ⟨rfl, rfl⟩ (q0 := 9) rfl rfl rfl rfl rfl rfl (Nat.le_of_ble_eq_true rfl) dX5_isFitting_8 ?_
  refine r_aload_n (pc := 11) C 0 dX5_isFitting_11 rfl rfl ?_
  refine xg_tried (pc := 12) C fl_RX5_16 dX5_isFitting_12 ?_
  refine xg_has_2 (pc := 15) C fl_RX5_113 dX5_isFitting_15 ?_
  refine r_iconst (pc := 18) C 3 dX5_isFitting_18 (by decide) ?_
  refine xa_has_2 (pc := 19) C 3 (rfl) (by omega) dX5_isFitting_19 ?_
  refine r_iload_n (pc := 20) C 2 dX5_isFitting_20 rfl rfl ?_
  refine r_iload_n (pc := 21) C 3 dX5_isFitting_21 rfl rfl ?_
  refine xs_row_2 (pc := 22) C 3 (by decide) o (rfl) (by omega) dX5_isFitting_22 (8 + 5 * o + 3) rfl (σ 0) (su_at) ?_
  refine r_blk (blk' := wX cs h (su σ 2 (upd (σ 0) (8 + 5 * o + 3) (nI u)))) (congrArg (wX cs h) (by rw [su_su])) ?_
  have hrg : rgM n (upd (σ 0) (8 + 5 * o + 3) (nI u)) := rg_webN hR hu
  have h0_ : (upd (σ 0) (8 + 5 * o + 3) (nI u)) 0 = nI n := upd_0 (by omega) hN
  refine r_iconst (pc := 23) C 0 dX5_isFitting_23 (by decide) ?_
  refine r_istore (pc := 24) C [(4, .int 0), (0, .ref (h 0)), (1, .ref (h (47 + g))), (2, .int (nI o)), (3, .int (nI u))] dX5_isFitting_24 (by decide) rfl ?_
  refine r_pick (lv' := [(0, .ref (h 0)), (1, .ref (h (47 + g))), (2, .int (nI o)), (3, .int (nI u)), (4, .int 0)]) [1, 2, 3, 4, 0] rfl ?_
  refine r_blk (blk' := wX cs h (su σ 2 (daysF n (upd (σ 0) (8 + 5 * o + 3) (nI u)) 0))) (rfl) ?_
  refine r_loop (blkf := fun i => wX cs h (su σ 2 (daysF n (upd (σ 0) (8 + 5 * o + 3) (nI u)) i))) (lvf := fun i => [(0, .ref (h 0)), (1, .ref (h (47 + g))), (2, .int (nI o)), (3, .int (nI u)), (4, .int (nI i))]) (fun i => tdB (tdP n (upd (σ 0) (8 + 5 * o + 3) (nI u)) (σ 17) o g) 0 z = tdB (tdP n (upd (σ 0) (8 + 5 * o + 3) (nI u)) (σ 17) o g) i (z - i) ∧ tdI (tdP n (upd (σ 0) (8 + 5 * o + 3) (nI u)) (σ 17) o g) 0 z = tdI (tdP n (upd (σ 0) (8 + 5 * o + 3) (nI u)) (σ 17) o g) i (z - i)) z 0 (by omega) (⟨rfl, rfl⟩) (fun i h_i hx ih_26 => ?_)
  show VX p l e _ s m args below meth c _ D A 5 pre (wX cs h (su σ 2 (daysF n (upd (σ 0) (8 + 5 * o + 3) (nI u)) i))) post 26 [(0, .ref (h 0)), (1, .ref (h (47 + g))), (2, .int (nI o)), (3, .int (nI u)), (4, .int (nI i))] []
  refine r_iload (pc := 26) C 4 dX5_isFitting_26 rfl ?_
  refine r_aload_n (pc := 28) C 1 dX5_isFitting_28 rfl rfl ?_
  refine xg_s_size (by omega) (pc := 29) C fl_RX5_222 dX5_isFitting_29 (σ 16 g) (congrFun ((su_nn (by decide))) g) ?_
  refine r_eqi (y := nI z) (hZ) ?_
  refine r_icmp_ge (pc := 32) C 88 dX5_isFitting_32 (by decide) (fun c_1 => ?_) (fun c_1 => ?_)
  · skip
    have c_1 := nIc_ge_t (a := i) (b := z) (by omega) (by omega) c_1
    obtain rfl : z = i := by omega
    refine r_iconst (pc := 88) C 1 dX5_isFitting_88 (by decide) ?_
    exact r_iret (pc := 89) C hr hlk dX5_isFitting_89 rfl (bI_t (by rw [hx.1]; exact td_end)) (by rw [show (daysF n (upd (σ 0) (8 + 5 * o + 3) (nI u)) (tdI (tdP n (upd (σ 0) (8 + 5 * o + 3) (nI u)) (σ 17) o g) 0 z) : Nat → Int32) = daysF n (upd (σ 0) (8 + 5 * o + 3) (nI u)) z from (by rw [hx.2, ti_end])] <;> rfl)
  · skip
    have c_1 := nIc_ge_f (a := i) (b := z) (by omega) (by omega) c_1
    refine r_aload_n (pc := 35) C 0 dX5_isFitting_35 rfl rfl ?_
    refine xg_tried (pc := 36) C fl_RX5_16 dX5_isFitting_36 ?_
    refine r_iconst (pc := 39) C 1 dX5_isFitting_39 (by decide) ?_
    refine rc_Vv (pc := 40) C (t_X0_passDays' l ad D cs (fun j => h (9 + j)) (fun _ => daysF n (upd (σ 0) (8 + 5 * o + 3) (nI u)) i) (pre ++ xA_2 cs h (su σ 2 (daysF n (upd (σ 0) (8 + 5 * o + 3) (nI u)) i))) (xC_2 cs h (su σ 2 (daysF n (upd (σ 0) (8 + 5 * o + 3) (nI u)) i)) ++ post) (daysF n (upd (σ 0) (8 + 5 * o + 3) (nI u)) i) rfl n 1 (daysF_0 h0_) hn (rg_days hrg i) (by omega)) mv_X0_passDays ml_RX5_142 rfl ⟨Nat.le_of_ble_eq_true rfl, Nat.le_of_ble_eq_true rfl⟩ ⟨rfl, rfl⟩ (q0 := 0) rfl rfl rfl fx_2 (bx_2 _) rfl (Nat.le_of_ble_eq_true rfl) dX5_isFitting_40 ?_
    refine r_blk (blk' := wX cs h (su σ 2 (daysF n (daysF n (upd (σ 0) (8 + 5 * o + 3) (nI u)) i) 1))) (congrArg (wX cs h) (by rw [su_su (k := 2)])) ?_
    have f_2 : daysF n (daysF n (upd (σ 0) (8 + 5 * o + 3) (nI u)) i) 1 0 = nI n := daysF_0 (daysF_0 h0_)
    refine r_blk (blk' := wX cs h (su σ 2 (daysF n (upd (σ 0) (8 + 5 * o + 3) (nI u)) (i + 1)))) (rfl) ?_
    refine r_aload_n (pc := 43) C 1 dX5_isFitting_43 rfl rfl ?_
    refine xg_s_items (by omega) (pc := 44) C fl_RX5_223 dX5_isFitting_44 ?_
    refine r_iload (pc := 47) C 4 dX5_isFitting_47 rfl ?_
    refine xl_items (pc := 49) C g (by omega) i (rfl) (by omega) dX5_isFitting_49 ((σ 17 (40 * g + i)).toInt64) (by rw [(su_nn (by decide))]) ?_
    refine r_ldc2 (pc := 50) C dX5_isFitting_50 cn_RX5_200 ?_
    refine r_eql (y := (-1 : Int32).toInt64) (by decide) ?_
    refine r_lcmp (pc := 53) C dX5_isFitting_53 ?_
    refine r_if_eq (pc := 54) C 82 dX5_isFitting_54 (by decide) (fun c_3 => ?_) (fun c_3 => ?_)
    · skip
      have c_3 := (lg_cmp_eq _ _).mp c_3
      rw [i64_eq] at c_3
      refine r_iinc (pc := 82) C (nI (i + 1)) 4 [(4, .int (nI (i + 1))), (0, .ref (h 0)), (1, .ref (h (47 + g))), (2, .int (nI o)), (3, .int (nI u))] dX5_isFitting_82 rfl (nI_1 _) (by decide) rfl ?_
      refine r_goto (pc := 85) C 26 dX5_isFitting_85 (by decide) ?_
      refine r_pick (lv' := [(0, .ref (h 0)), (1, .ref (h (47 + g))), (2, .int (nI o)), (3, .int (nI u)), (4, .int (nI (i + 1)))]) [1, 2, 3, 4, 0] rfl ?_
      exact ih_26 (by omega) (⟨hx.1.trans (td_next (by omega) (by simp_all [tdP])), hx.2.trans (ti_next (by omega) (by simp_all [tdP]))⟩)
    · skip
      have c_3 := mt (lg_cmp_eq _ _).mpr c_3
      rw [i64_eq] at c_3
      refine r_aload_n (pc := 57) C 1 dX5_isFitting_57 rfl rfl ?_
      refine xg_s_items (by omega) (pc := 58) C fl_RX5_223 dX5_isFitting_58 ?_
      refine r_iload (pc := 61) C 4 dX5_isFitting_61 rfl ?_
      refine xl_items (pc := 63) C g (by omega) i (rfl) (by omega) dX5_isFitting_63 ((σ 17 (40 * g + i)).toInt64) (by rw [(su_nn (by decide))]) ?_
      refine r_aload_n (pc := 64) C 0 dX5_isFitting_64 rfl rfl ?_
      refine xg_tried (pc := 65) C fl_RX5_16 dX5_isFitting_65 ?_
      refine xg_has_2 (pc := 68) C fl_RX5_113 dX5_isFitting_68 ?_
      refine r_iconst (pc := 71) C 4 dX5_isFitting_71 (by decide) ?_
      refine xa_has_2 (pc := 72) C 4 (rfl) (by omega) dX5_isFitting_72 ?_
      refine r_iload_n (pc := 73) C 2 dX5_isFitting_73 rfl rfl ?_
      refine xl_row_2 (pc := 74) C 4 (by decide) o (rfl) (by omega) dX5_isFitting_74 (daysF n (upd (σ 0) (8 + 5 * o + 3) (nI u)) (i + 1) (8 + 5 * o + 4)) (congrFun (su_at) _) ?_
      refine r_i2l (pc := 75) C dX5_isFitting_75 ?_
      refine r_lcmp (pc := 76) C dX5_isFitting_76 ?_
      refine r_if_eq (pc := 77) C 82 dX5_isFitting_77 (by decide) (fun c_4 => ?_) (fun c_4 => ?_)
      · skip
        have c_4 := (lg_cmp_eq _ _).mp c_4
        rw [i64_eq] at c_4
        refine r_iinc (pc := 82) C (nI (i + 1)) 4 [(4, .int (nI (i + 1))), (0, .ref (h 0)), (1, .ref (h (47 + g))), (2, .int (nI o)), (3, .int (nI u))] dX5_isFitting_82 rfl (nI_1 _) (by decide) rfl ?_
        refine r_goto (pc := 85) C 26 dX5_isFitting_85 (by decide) ?_
        refine r_pick (lv' := [(0, .ref (h 0)), (1, .ref (h (47 + g))), (2, .int (nI o)), (3, .int (nI u)), (4, .int (nI (i + 1)))]) [1, 2, 3, 4, 0] rfl ?_
        exact ih_26 (by omega) (⟨hx.1.trans (td_next (by omega) (by simp_all [tdP])), hx.2.trans (ti_next (by omega) (by simp_all [tdP]))⟩)
      · skip
        have c_4 := mt (lg_cmp_eq _ _).mpr c_4
        rw [i64_eq] at c_4
        refine r_iconst (pc := 80) C 0 dX5_isFitting_80 (by decide) ?_
        exact r_iret (pc := 81) C hr hlk dX5_isFitting_81 rfl (bI_f (by rw [hx.1, td_hit (by omega) (by simp_all [tdP])]; decide)) (by rw [show (daysF n (upd (σ 0) (8 + 5 * o + 3) (nI u)) (tdI (tdP n (upd (σ 0) (8 + 5 * o + 3) (nI u)) (σ 17) o g) 0 z) : Nat → Int32) = daysF n (upd (σ 0) (8 + 5 * o + 3) (nI u)) (i + 1) from (by rw [hx.2, ti_hit (by omega) (by simp_all [tdP])])] <;> rfl)
theorem t_X5_isFitting' (l : Launch) (ad : Nat → Nat) (D : va_G) (cs : Nat → ClassId) (h : Nat → Nat) (σ : Nat → Nat → Int32) (pre post : va_W) (f0_ : Nat → Int32) (e0_ : σ 0 = f0_) (f16_ : Nat → Int32) (e16_ : σ 16 = f16_) (f17_ : Nat → Int32) (e17_ : σ 17 = f17_) (n g o u z : Nat) (hN : f0_ 0 = nI n) (hn : n ≤ 8) (hR : rgM n f0_) (hg : g < 4) (ho : o < n) (hu : u ≤ 99) (hZ : f16_ g = nI z) (hz0 : z ≤ 40) : CTi l yX5_isFitting cX5_isFitting 5 .boolean ({ frames := 5, cells := 0, slots := 0, locals := 114 }) ad D (tysW cs) (pre ++ (wX cs h σ ++ post)) [.ref (h 0), .ref (h (47 + g)), .int (nI o), .int (nI u)] (bI (tdB (tdP n (upd f0_ (8 + 5 * o + 3) (nI u)) (f17_) o g) 0 z = true)) (pre ++ (wX cs h (su σ 2 (daysF n (upd f0_ (8 + 5 * o + 3) (nI u)) (tdI (tdP n (upd f0_ (8 + 5 * o + 3) (nI u)) (f17_) o g) 0 z))) ++ post)) := by
  subst e0_; subst e16_; subst e17_
  exact t_X5_isFitting l ad D cs h σ pre post n g o u z hN hn hR hg ho hu hZ hz0
