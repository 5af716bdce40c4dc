theorem dX6_of_0 : decode cX6_of 0 = .ok (.aload_n 0, 1) := by decide +kernel
theorem dX6_of_1 : decode cX6_of 1 = .ok (.iload_n 1, 1) := by decide +kernel
theorem dX6_of_2 : decode cX6_of 2 = .ok (.invokevirtual 168, 3) := by decide +kernel
theorem dX6_of_5 : decode cX6_of 5 = .ok (.ifCond .eq 15, 3) := by decide +kernel
theorem dX6_of_8 : decode cX6_of 8 = .ok (.iload_n 2, 1) := by decide +kernel
theorem dX6_of_9 : decode cX6_of 9 = .ok (.i2l, 1) := by decide +kernel
theorem dX6_of_10 : decode cX6_of 10 = .ok (.lconst 0, 1) := by decide +kernel
theorem dX6_of_11 : decode cX6_of 11 = .ok (.ldc2_w 154, 3) := by decide +kernel
theorem dX6_of_14 : decode cX6_of 14 = .ok (.invokestatic 57, 3) := by decide +kernel
theorem dX6_of_17 : decode cX6_of 17 = .ok (.ifCond .ne 5, 3) := by decide +kernel
theorem dX6_of_20 : decode cX6_of 20 = .ok (.iconst (-1), 1) := by decide +kernel
theorem dX6_of_21 : decode cX6_of 21 = .ok (.ireturn, 1) := by decide +kernel
theorem dX6_of_22 : decode cX6_of 22 = .ok (.iload_n 2, 1) := by decide +kernel
theorem dX6_of_23 : decode cX6_of 23 = .ok (.iconst 5, 1) := by decide +kernel
theorem dX6_of_24 : decode cX6_of 24 = .ok (.if_icmp .ge 12, 3) := by decide +kernel
theorem dX6_of_27 : decode cX6_of 27 = .ok (.aload_n 0, 1) := by decide +kernel
theorem dX6_of_28 : decode cX6_of 28 = .ok (.iload_n 1, 1) := by decide +kernel
theorem dX6_of_29 : decode cX6_of 29 = .ok (.iload_n 2, 1) := by decide +kernel
theorem dX6_of_30 : decode cX6_of 30 = .ok (.invokevirtual 156, 3) := by decide +kernel
theorem dX6_of_33 : decode cX6_of 33 = .ok (.goto 17, 3) := by decide +kernel
theorem dX6_of_36 : decode cX6_of 36 = .ok (.aload_n 0, 1) := by decide +kernel
theorem dX6_of_37 : decode cX6_of 37 = .ok (.iload_n 1, 1) := by decide +kernel
theorem dX6_of_38 : decode cX6_of 38 = .ok (.iconst 3, 1) := by decide +kernel
theorem dX6_of_39 : decode cX6_of 39 = .ok (.invokevirtual 156, 3) := by decide +kernel
theorem dX6_of_42 : decode cX6_of 42 = .ok (.ifCond .ne 7, 3) := by decide +kernel
theorem dX6_of_45 : decode cX6_of 45 = .ok (.iconst 1, 1) := by decide +kernel
theorem dX6_of_46 : decode cX6_of 46 = .ok (.goto 4, 3) := by decide +kernel
theorem dX6_of_49 : decode cX6_of 49 = .ok (.iconst 0, 1) := by decide +kernel
theorem dX6_of_50 : decode cX6_of 50 = .ok (.ireturn, 1) := by decide +kernel
set_option maxHeartbeats 400000 in
set_option maxRecDepth 20000 in
theorem t_X6_of (l : Launch) (ad : Nat → Nat) (D : va_G) (cs : Nat → ClassId) (h : Nat → Nat) (σ : Nat → Nat → Int32) (pre post : va_W) (n : Nat) (o w : Int32) (hN : σ 0 0 = nI n) (hn : n ≤ 8) : CTi l yX6_of cX6_of 3 .int ({ frames := 1, cells := 0, slots := 0, locals := 25 }) ad D (tysW cs) (pre ++ (wM cs h σ ++ post)) [.ref (h 0), .int o, .int w] (ofA n (σ 0) o w) (pre ++ (wM cs h σ ++ post)) := by
  refine CTi.of (lv0 := [(0, .ref (h 0)), (1, .int o), (2, .int w)]) (by decide) rfl (Nat.le_of_ble_eq_true rfl) (fun p e s m args below meth c A C hr hlk => ?_)
  have C : Cx p s m args c cX6_of 3 RX6 ad D (tysW cs) A := C
  refine r_aload_n (pc := 0) C 0 dX6_of_0 rfl rfl ?_
  refine r_iload_n (pc := 1) C 1 dX6_of_1 rfl rfl ?_
  refine rc_Vi (pc := 2) C (t_X6_isOne' l ad D cs h σ pre post (σ 0) (rfl) n o hN hn) mv_X6_isOne ml_RX6_168 rfl ⟨Nat.le_of_ble_eq_true rfl, Nat.le_of_ble_eq_true rfl⟩ ⟨rfl, rfl⟩ (q0 := 0) rfl rfl rfl rfl rfl rfl (Nat.le_of_ble_eq_true rfl) dX6_of_2 ?_
  refine r_if_eq (pc := 5) C 20 dX6_of_5 (by decide) (fun c_1 => ?_) (fun c_1 => ?_)
  · skip
    have c_1 := bI_0.mp c_1
    refine r_iconst (pc := 20) C (-1) dX6_of_20 (by decide) ?_
    exact r_iret (pc := 21) C hr hlk dX6_of_21 rfl (by first | (simp [ofA, *]; done) | simp_all [ofA]) rfl
  · skip
    have c_1 := bI_n.mp c_1
    obtain ⟨j, h_j, rfl⟩ := one_nat (by omega) c_1
    have e_j : (nI j).toNatClampNeg = j := nI_clamp (by omega)
    refine r_iload_n (pc := 8) C 2 dX6_of_8 rfl rfl ?_
    refine r_i2l (pc := 9) C dX6_of_9 ?_
    refine r_lconst (pc := 10) C 0 dX6_of_10 (by decide) ?_
    refine r_ldc2 (pc := 11) C dX6_of_11 cn_RX6_154 ?_
    refine rc_Si (pc := 14) C (t_X6_isIn l ad D (tysW cs) (wM cs h σ) pre post  w (0 : Int32) (5 : Int32) ) ms_X6_isIn ml_RX6_57 rfl ⟨Nat.le_of_ble_eq_true rfl, Nat.le_of_ble_eq_true rfl⟩ ⟨rfl, rfl⟩ rfl rfl rfl (Nat.le_of_ble_eq_true rfl) dX6_of_14 ?_
    refine r_if_ne (pc := 17) C 22 dX6_of_17 (by decide) (fun c_2 => ?_) (fun c_2 => ?_)
    · skip
      have c_2 := bI_n.mp c_2
      obtain ⟨k, l_k, h_k, rfl⟩ := rng_nat 0 5 (by decide) (by decide) c_2
      have e_k : (nI k).toNatClampNeg = k := nI_clamp (by omega)
      refine r_iload_n (pc := 22) C 2 dX6_of_22 rfl rfl ?_
      refine r_iconst (pc := 23) C 5 dX6_of_23 (by decide) ?_
      refine r_icmp_ge (pc := 24) C 36 dX6_of_24 (by decide) (fun c_3 => ?_) (fun c_3 => ?_)
      · skip
        have c_3 := nIc_ge_t (a := k) (b := 5) (by omega) (by omega) c_3
        refine r_aload_n (pc := 36) C 0 dX6_of_36 rfl rfl ?_
        refine r_iload_n (pc := 37) C 1 dX6_of_37 rfl rfl ?_
        refine r_iconst (pc := 38) C 3 dX6_of_38 (by decide) ?_
        refine rc_Vi (pc := 39) C (t_X6_its' l ad D cs h σ pre post (σ 0) (rfl) j 3 (by omega) (by omega)) mv_X6_its ml_RX6_156 rfl ⟨Nat.le_of_ble_eq_true rfl, Nat.le_of_ble_eq_true rfl⟩ ⟨rfl, rfl⟩ (q0 := 0) rfl rfl rfl rfl rfl rfl (Nat.le_of_ble_eq_true rfl) dX6_of_39 ?_
        refine r_if_ne (pc := 42) C 49 dX6_of_42 (by decide) (fun c_4 => ?_) (fun c_4 => ?_)
        · skip
          refine r_iconst (pc := 49) C 0 dX6_of_49 (by decide) ?_
          exact r_iret (pc := 50) C hr hlk dX6_of_50 rfl (by first | (simp [ofA, *]; done) | simp_all [ofA]) rfl
        · skip
          refine r_iconst (pc := 45) C 1 dX6_of_45 (by decide) ?_
          refine r_goto (pc := 46) C 50 dX6_of_46 (by decide) ?_
          exact r_iret (pc := 50) C hr hlk dX6_of_50 rfl (by first | (simp [ofA, *]; done) | simp_all [ofA]) rfl
      · skip
        have c_3 := nIc_ge_f (a := k) (b := 5) (by omega) (by omega) c_3
        refine r_aload_n (pc := 27) C 0 dX6_of_27 rfl rfl ?_
        refine r_iload_n (pc := 28) C 1 dX6_of_28 rfl rfl ?_
        refine r_iload_n (pc := 29) C 2 dX6_of_29 rfl rfl ?_
        refine rc_Vi (pc := 30) C (t_X6_its' l ad D cs h σ pre post (σ 0) (rfl) j k (by omega) (by omega)) mv_X6_its ml_RX6_156 rfl ⟨Nat.le_of_ble_eq_true rfl, Nat.le_of_ble_eq_true rfl⟩ ⟨rfl, rfl⟩ (q0 := 0) rfl rfl rfl rfl rfl rfl (Nat.le_of_ble_eq_true rfl) dX6_of_30 ?_
        refine r_goto (pc := 33) C 50 dX6_of_33 (by decide) ?_
        exact r_iret (pc := 50) C hr hlk dX6_of_50 rfl (by first | (simp [ofA, *]; done) | simp_all [ofA]) rfl
    · skip
      have c_2 := bI_0.mp c_2
      refine r_iconst (pc := 20) C (-1) dX6_of_20 (by decide) ?_
      exact r_iret (pc := 21) C hr hlk dX6_of_21 rfl (by first | (simp [ofA, *]; done) | simp_all [ofA]) rfl
theorem t_X6_of' (l : Launch) (ad : Nat → Nat) (D : va_G) (cs : Nat → ClassId) (h : Nat → Nat) (σ : Nat → Nat → Int32) (pre post : va_W) (f0_ : Nat → Int32) (e0_ : σ 0 = f0_) (n : Nat) (o w : Int32) (hN : f0_ 0 = nI n) (hn : n ≤ 8) : CTi l yX6_of cX6_of 3 .int ({ frames := 1, cells := 0, slots := 0, locals := 25 }) ad D (tysW cs) (pre ++ (wM cs h σ ++ post)) [.ref (h 0), .int o, .int w] (ofA n f0_ o w) (pre ++ (wM cs h σ ++ post)) := by
  subst e0_
  exact t_X6_of l ad D cs h σ pre post n o w hN hn
theorem dX6_does_0 : decode cX6_does 0 = .ok (.aload_n 0, 1) := by decide +kernel
theorem dX6_does_1 : decode cX6_does 1 = .ok (.iload_n 1, 1) := by decide +kernel
theorem dX6_does_2 : decode cX6_does 2 = .ok (.invokevirtual 168, 3) := by decide +kernel
theorem dX6_does_5 : decode cX6_does 5 = .ok (.ifCond .eq 13, 3) := by decide +kernel
theorem dX6_does_8 : decode cX6_does 8 = .ok (.iload_n 2, 1) := by decide +kernel
theorem dX6_does_9 : decode cX6_does 9 = .ok (.i2l, 1) := by decide +kernel
theorem dX6_does_10 : decode cX6_does 10 = .ok (.lconst 0, 1) := by decide +kernel
theorem dX6_does_11 : decode cX6_does 11 = .ok (.lconst 1, 1) := by decide +kernel
theorem dX6_does_12 : decode cX6_does 12 = .ok (.invokestatic 57, 3) := by decide +kernel
theorem dX6_does_15 : decode cX6_does 15 = .ok (.ifCond .ne 5, 3) := by decide +kernel
theorem dX6_does_18 : decode cX6_does 18 = .ok (.iconst (-1), 1) := by decide +kernel
theorem dX6_does_19 : decode cX6_does 19 = .ok (.ireturn, 1) := by decide +kernel
theorem dX6_does_20 : decode cX6_does 20 = .ok (.sipush 1000, 3) := by decide +kernel
theorem dX6_does_23 : decode cX6_does 23 = .ok (.iload_n 2, 1) := by decide +kernel
theorem dX6_does_24 : decode cX6_does 24 = .ok (.ifCond .ne 11, 3) := by decide +kernel
theorem dX6_does_27 : decode cX6_does 27 = .ok (.aload_n 0, 1) := by decide +kernel
theorem dX6_does_28 : decode cX6_does 28 = .ok (.iload_n 1, 1) := by decide +kernel
theorem dX6_does_29 : decode cX6_does 29 = .ok (.invokevirtual 162, 3) := by decide +kernel
theorem dX6_does_32 : decode cX6_does 32 = .ok (.goto 8, 3) := by decide +kernel
theorem dX6_does_35 : decode cX6_does 35 = .ok (.aload_n 0, 1) := by decide +kernel
theorem dX6_does_36 : decode cX6_does 36 = .ok (.iload_n 1, 1) := by decide +kernel
theorem dX6_does_37 : decode cX6_does 37 = .ok (.invokevirtual 171, 3) := by decide +kernel
theorem dX6_does_40 : decode cX6_does 40 = .ok (.iadd, 1) := by decide +kernel
theorem dX6_does_41 : decode cX6_does 41 = .ok (.ireturn, 1) := by decide +kernel
set_option maxHeartbeats 400000 in
set_option maxRecDepth 20000 in
theorem t_X6_does (l : Launch) (ad : Nat → Nat) (D : va_G) (cs : Nat → ClassId) (h : Nat → Nat) (σ : Nat → Nat → Int32) (pre post : va_W) (n : Nat) (o w : Int32) (hN : σ 0 0 = nI n) (hn : n ≤ 8) : CTi l yX6_does cX6_does 3 .int ({ frames := 2, cells := 0, slots := 0, locals := 44 }) ad D (tysW cs) (pre ++ (wM cs h σ ++ post)) [.ref (h 0), .int o, .int w] (doesA n (σ 0) o w) (pre ++ (wM cs h σ ++ post)) := by
  refine CTi.of (lv0 := [(0, .ref (h 0)), (1, .int o), (2, .int w)]) (by decide) rfl (Nat.le_of_ble_eq_true rfl) (fun p e s m args below meth c A C hr hlk => ?_)
  have C : Cx p s m args c cX6_does 3 RX6 ad D (tysW cs) A := C
  refine r_aload_n (pc := 0) C 0 dX6_does_0 rfl rfl ?_
  refine r_iload_n (pc := 1) C 1 dX6_does_1 rfl rfl ?_
  refine rc_Vi (pc := 2) C (t_X6_isOne' l ad D cs h σ pre post (σ 0) (rfl) n o hN hn) mv_X6_isOne ml_RX6_168 rfl ⟨Nat.le_of_ble_eq_true rfl, Nat.le_of_ble_eq_true rfl⟩ ⟨rfl, rfl⟩ (q0 := 0) rfl rfl rfl rfl rfl rfl (Nat.le_of_ble_eq_true rfl) dX6_does_2 ?_
  refine r_if_eq (pc := 5) C 18 dX6_does_5 (by decide) (fun c_1 => ?_) (fun c_1 => ?_)
  · skip
    have c_1 := bI_0.mp c_1
    refine r_iconst (pc := 18) C (-1) dX6_does_18 (by decide) ?_
    exact r_iret (pc := 19) C hr hlk dX6_does_19 rfl (by first | (simp [doesA, *]; done) | simp_all [doesA]) rfl
  · skip
    have c_1 := bI_n.mp c_1
    obtain ⟨j, h_j, rfl⟩ := one_nat (by omega) c_1
    have e_j : (nI j).toNatClampNeg = j := nI_clamp (by omega)
    refine r_iload_n (pc := 8) C 2 dX6_does_8 rfl rfl ?_
    refine r_i2l (pc := 9) C dX6_does_9 ?_
    refine r_lconst (pc := 10) C 0 dX6_does_10 (by decide) ?_
    refine r_lconst (pc := 11) C 1 dX6_does_11 (by decide) ?_
    refine rc_Si (pc := 12) C (t_X6_isIn l ad D (tysW cs) (wM cs h σ) pre post  w (0 : Int32) (1 : Int32) ) ms_X6_isIn ml_RX6_57 rfl ⟨Nat.le_of_ble_eq_true rfl, Nat.le_of_ble_eq_true rfl⟩ ⟨rfl, rfl⟩ rfl rfl rfl (Nat.le_of_ble_eq_true rfl) dX6_does_12 ?_
    refine r_if_ne (pc := 15) C 20 dX6_does_15 (by decide) (fun c_2 => ?_) (fun c_2 => ?_)
    · skip
      have c_2 := bI_n.mp c_2
      refine r_sipush (pc := 20) C 1000 dX6_does_20 (by decide) ?_
      refine r_iload_n (pc := 23) C 2 dX6_does_23 rfl rfl ?_
      refine r_if_ne (pc := 24) C 35 dX6_does_24 (by decide) (fun c_3 => ?_) (fun c_3 => ?_)
      · skip
        refine r_aload_n (pc := 35) C 0 dX6_does_35 rfl rfl ?_
        refine r_iload_n (pc := 36) C 1 dX6_does_36 rfl rfl ?_
        refine rc_Vi (pc := 37) C (t_X6_frays' l ad D cs h σ pre post (σ 0) (rfl) n j hn h_j) mv_X6_frays ml_RX6_171 rfl ⟨Nat.le_of_ble_eq_true rfl, Nat.le_of_ble_eq_true rfl⟩ ⟨rfl, rfl⟩ (q0 := 0) rfl rfl rfl rfl rfl rfl (Nat.le_of_ble_eq_true rfl) dX6_does_37 ?_
        refine r_iadd (pc := 40) C dX6_does_40 ?_
        exact r_iret (pc := 41) C hr hlk dX6_does_41 rfl (by first | (simp [doesA, *]; done) | simp_all [doesA]) rfl
      · skip
        refine r_aload_n (pc := 27) C 0 dX6_does_27 rfl rfl ?_
        refine r_iload_n (pc := 28) C 1 dX6_does_28 rfl rfl ?_
        refine rc_Vi (pc := 29) C (t_X6_wears' l ad D cs h σ pre post (σ 0) (rfl) n j hn h_j) mv_X6_wears ml_RX6_162 rfl ⟨Nat.le_of_ble_eq_true rfl, Nat.le_of_ble_eq_true rfl⟩ ⟨rfl, rfl⟩ (q0 := 0) rfl rfl rfl rfl rfl rfl (Nat.le_of_ble_eq_true rfl) dX6_does_29 ?_
        refine r_goto (pc := 32) C 40 dX6_does_32 (by decide) ?_
        refine r_iadd (pc := 40) C dX6_does_40 ?_
        exact r_iret (pc := 41) C hr hlk dX6_does_41 rfl (by first | (simp [doesA, *]; done) | simp_all [doesA]) rfl
    · skip
      have c_2 := bI_0.mp c_2
      refine r_iconst (pc := 18) C (-1) dX6_does_18 (by decide) ?_
      exact r_iret (pc := 19) C hr hlk dX6_does_19 rfl (by first | (simp [doesA, *]; done) | simp_all [doesA]) rfl
theorem t_X6_does' (l : Launch) (ad : Nat → Nat) (D : va_G) (cs : Nat → ClassId) (h : Nat → Nat) (σ : Nat → Nat → Int32) (pre post : va_W) (f0_ : Nat → Int32) (e0_ : σ 0 = f0_) (n : Nat) (o w : Int32) (hN : f0_ 0 = nI n) (hn : n ≤ 8) : CTi l yX6_does cX6_does 3 .int ({ frames := 2, cells := 0, slots := 0, locals := 44 }) ad D (tysW cs) (pre ++ (wM cs h σ ++ post)) [.ref (h 0), .int o, .int w] (doesA n f0_ o w) (pre ++ (wM cs h σ ++ post)) := by
  subst e0_
  exact t_X6_does l ad D cs h σ pre post n o w hN hn
theorem dX6_areTwo_0 : decode cX6_areTwo 0 = .ok (.aload_n 0, 1) := by decide +kernel
theorem dX6_areTwo_1 : decode cX6_areTwo 1 = .ok (.iload_n 1, 1) := by decide +kernel
theorem dX6_areTwo_2 : decode cX6_areTwo 2 = .ok (.invokevirtual 168, 3) := by decide +kernel
theorem dX6_areTwo_5 : decode cX6_areTwo 5 = .ok (.ifCond .eq 20, 3) := by decide +kernel
theorem dX6_areTwo_8 : decode cX6_areTwo 8 = .ok (.aload_n 0, 1) := by decide +kernel
theorem dX6_areTwo_9 : decode cX6_areTwo 9 = .ok (.iload_n 2, 1) := by decide +kernel
theorem dX6_areTwo_10 : decode cX6_areTwo 10 = .ok (.invokevirtual 168, 3) := by decide +kernel
theorem dX6_areTwo_13 : decode cX6_areTwo 13 = .ok (.ifCond .eq 12, 3) := by decide +kernel
theorem dX6_areTwo_16 : decode cX6_areTwo 16 = .ok (.iload_n 1, 1) := by decide +kernel
theorem dX6_areTwo_17 : decode cX6_areTwo 17 = .ok (.iload_n 2, 1) := by decide +kernel
theorem dX6_areTwo_18 : decode cX6_areTwo 18 = .ok (.if_icmp .eq 7, 3) := by decide +kernel
theorem dX6_areTwo_21 : decode cX6_areTwo 21 = .ok (.iconst 1, 1) := by decide +kernel
theorem dX6_areTwo_22 : decode cX6_areTwo 22 = .ok (.goto 4, 3) := by decide +kernel
theorem dX6_areTwo_25 : decode cX6_areTwo 25 = .ok (.iconst 0, 1) := by decide +kernel
theorem dX6_areTwo_26 : decode cX6_areTwo 26 = .ok (.ireturn, 1) := by decide +kernel
set_option maxHeartbeats 400000 in
set_option maxRecDepth 20000 in
theorem t_X6_areTwo (l : Launch) (ad : Nat → Nat) (D : va_G) (cs : Nat → ClassId) (h : Nat → Nat) (σ : Nat → Nat → Int32) (pre post : va_W) (n : Nat) (o q : Int32) (hN : σ 0 0 = nI n) (hn : n ≤ 8) : CTi l yX6_areTwo cX6_areTwo 3 .boolean ({ frames := 1, cells := 0, slots := 0, locals := 21 }) ad D (tysW cs) (pre ++ (wM cs h σ ++ post)) [.ref (h 0), .int o, .int q] (bI (twoB n o q = true)) (pre ++ (wM cs h σ ++ post)) := by
  refine CTi.of (lv0 := [(0, .ref (h 0)), (1, .int o), (2, .int q)]) (by decide) rfl (Nat.le_of_ble_eq_true rfl) (fun p e s m args below meth c A C hr hlk => ?_)
  have C : Cx p s m args c cX6_areTwo 3 RX6 ad D (tysW cs) A := C
  refine r_aload_n (pc := 0) C 0 dX6_areTwo_0 rfl rfl ?_
  refine r_iload_n (pc := 1) C 1 dX6_areTwo_1 rfl rfl ?_
  refine rc_Vi (pc := 2) C (t_X6_isOne' l ad D cs h σ pre post (σ 0) (rfl) n o hN hn) mv_X6_isOne ml_RX6_168 rfl ⟨Nat.le_of_ble_eq_true rfl, Nat.le_of_ble_eq_true rfl⟩ ⟨rfl, rfl⟩ (q0 := 0) rfl rfl rfl rfl rfl rfl (Nat.le_of_ble_eq_true rfl) dX6_areTwo_2 ?_
  refine r_if_eq (pc := 5) C 25 dX6_areTwo_5 (by decide) (fun c_1 => ?_) (fun c_1 => ?_)
  · skip
    have c_1 := bI_0.mp c_1
    refine r_iconst (pc := 25) C 0 dX6_areTwo_25 (by decide) ?_
    exact r_iret (pc := 26) C hr hlk dX6_areTwo_26 rfl (by simp_all [bI, twoB]) rfl
  · skip
    have c_1 := bI_n.mp c_1
    refine r_aload_n (pc := 8) C 0 dX6_areTwo_8 rfl rfl ?_
    refine r_iload_n (pc := 9) C 2 dX6_areTwo_9 rfl rfl ?_
    refine rc_Vi (pc := 10) C (t_X6_isOne' l ad D cs h σ pre post (σ 0) (rfl) n q hN hn) mv_X6_isOne ml_RX6_168 rfl ⟨Nat.le_of_ble_eq_true rfl, Nat.le_of_ble_eq_true rfl⟩ ⟨rfl, rfl⟩ (q0 := 0) rfl rfl rfl rfl rfl rfl (Nat.le_of_ble_eq_true rfl) dX6_areTwo_10 ?_
    refine r_if_eq (pc := 13) C 25 dX6_areTwo_13 (by decide) (fun c_2 => ?_) (fun c_2 => ?_)
    · skip
      have c_2 := bI_0.mp c_2
      refine r_iconst (pc := 25) C 0 dX6_areTwo_25 (by decide) ?_
      exact r_iret (pc := 26) C hr hlk dX6_areTwo_26 rfl (by simp_all [bI, twoB]) rfl
    · skip
      have c_2 := bI_n.mp c_2
      refine r_iload_n (pc := 16) C 1 dX6_areTwo_16 rfl rfl ?_
      refine r_iload_n (pc := 17) C 2 dX6_areTwo_17 rfl rfl ?_
      refine r_icmp_eq (pc := 18) C 25 dX6_areTwo_18 (by decide) (fun c_3 => ?_) (fun c_3 => ?_)
      · skip
        refine r_iconst (pc := 25) C 0 dX6_areTwo_25 (by decide) ?_
        exact r_iret (pc := 26) C hr hlk dX6_areTwo_26 rfl (by simp_all [bI, twoB]) rfl
      · skip
        refine r_iconst (pc := 21) C 1 dX6_areTwo_21 (by decide) ?_
        refine r_goto (pc := 22) C 26 dX6_areTwo_22 (by decide) ?_
        exact r_iret (pc := 26) C hr hlk dX6_areTwo_26 rfl (by simp_all [bI, twoB]) rfl
theorem t_X6_areTwo' (l : Launch) (ad : Nat → Nat) (D : va_G) (cs : Nat → ClassId) (h : Nat → Nat) (σ : Nat → Nat → Int32) (pre post : va_W) (f0_ : Nat → Int32) (e0_ : σ 0 = f0_) (n : Nat) (o q : Int32) (hN : f0_ 0 = nI n) (hn : n ≤ 8) : CTi l yX6_areTwo cX6_areTwo 3 .boolean ({ frames := 1, cells := 0, slots := 0, locals := 21 }) ad D (tysW cs) (pre ++ (wM cs h σ ++ post)) [.ref (h 0), .int o, .int q] (bI (twoB n o q = true)) (pre ++ (wM cs h σ ++ post)) := by
  subst e0_
  exact t_X6_areTwo l ad D cs h σ pre post n o q hN hn
theorem dX6_looks_0 : decode cX6_looks 0 = .ok (.aload_n 0, 1) := by decide +kernel
theorem dX6_looks_1 : decode cX6_looks 1 = .ok (.iload_n 1, 1) := by decide +kernel
theorem dX6_looks_2 : decode cX6_looks 2 = .ok (.iload_n 2, 1) := by decide +kernel
theorem dX6_looks_3 : decode cX6_looks 3 = .ok (.invokevirtual 174, 3) := by decide +kernel
theorem dX6_looks_6 : decode cX6_looks 6 = .ok (.ifCond .eq 13, 3) := by decide +kernel
theorem dX6_looks_9 : decode cX6_looks 9 = .ok (.iload_n 3, 1) := by decide +kernel
theorem dX6_looks_10 : decode cX6_looks 10 = .ok (.i2l, 1) := by decide +kernel
theorem dX6_looks_11 : decode cX6_looks 11 = .ok (.lconst 0, 1) := by decide +kernel
theorem dX6_looks_12 : decode cX6_looks 12 = .ok (.lconst 1, 1) := by decide +kernel
theorem dX6_looks_13 : decode cX6_looks 13 = .ok (.invokestatic 57, 3) := by decide +kernel
theorem dX6_looks_16 : decode cX6_looks 16 = .ok (.ifCond .ne 5, 3) := by decide +kernel
theorem dX6_looks_19 : decode cX6_looks 19 = .ok (.iconst (-1), 1) := by decide +kernel
theorem dX6_looks_20 : decode cX6_looks 20 = .ok (.ireturn, 1) := by decide +kernel
theorem dX6_looks_21 : decode cX6_looks 21 = .ok (.sipush 1000, 3) := by decide +kernel
theorem dX6_looks_24 : decode cX6_looks 24 = .ok (.iload_n 3, 1) := by decide +kernel
theorem dX6_looks_25 : decode cX6_looks 25 = .ok (.ifCond .ne 12, 3) := by decide +kernel
theorem dX6_looks_28 : decode cX6_looks 28 = .ok (.aload_n 0, 1) := by decide +kernel
theorem dX6_looks_29 : decode cX6_looks 29 = .ok (.iload_n 1, 1) := by decide +kernel
theorem dX6_looks_30 : decode cX6_looks 30 = .ok (.iload_n 2, 1) := by decide +kernel
theorem dX6_looks_31 : decode cX6_looks 31 = .ok (.invokevirtual 165, 3) := by decide +kernel
theorem dX6_looks_34 : decode cX6_looks 34 = .ok (.goto 9, 3) := by decide +kernel
theorem dX6_looks_37 : decode cX6_looks 37 = .ok (.aload_n 0, 1) := by decide +kernel
theorem dX6_looks_38 : decode cX6_looks 38 = .ok (.iload_n 1, 1) := by decide +kernel
theorem dX6_looks_39 : decode cX6_looks 39 = .ok (.iload_n 2, 1) := by decide +kernel
theorem dX6_looks_40 : decode cX6_looks 40 = .ok (.invokevirtual 178, 3) := by decide +kernel
theorem dX6_looks_43 : decode cX6_looks 43 = .ok (.iadd, 1) := by decide +kernel
theorem dX6_looks_44 : decode cX6_looks 44 = .ok (.ireturn, 1) := by decide +kernel
set_option maxHeartbeats 400000 in
set_option maxRecDepth 20000 in
theorem t_X6_looks (l : Launch) (ad : Nat → Nat) (D : va_G) (cs : Nat → ClassId) (h : Nat → Nat) (σ : Nat → Nat → Int32) (pre post : va_W) (n : Nat) (o q w : Int32) (hN : σ 0 0 = nI n) (hn : n ≤ 8) : CTi l yX6_looks cX6_looks 4 .int ({ frames := 4, cells := 0, slots := 0, locals := 90 }) ad D (tysW cs) (pre ++ (wM cs h σ ++ post)) [.ref (h 0), .int o, .int q, .int w] (looksA n (σ 0) o q w) (pre ++ (wM cs h σ ++ post)) := by
  refine CTi.of (lv0 := [(0, .ref (h 0)), (1, .int o), (2, .int q), (3, .int w)]) (by decide) rfl (Nat.le_of_ble_eq_true rfl) (fun p e s m args below meth c A C hr hlk => ?_)
  have C : Cx p s m args c cX6_looks 4 RX6 ad D (tysW cs) A := C
  refine r_aload_n (pc := 0) C 0 dX6_looks_0 rfl rfl ?_
  refine r_iload_n (pc := 1) C 1 dX6_looks_1 rfl rfl ?_
  refine r_iload_n (pc := 2) C 2 dX6_looks_2 rfl rfl ?_
  refine rc_Vi (pc := 3) C (t_X6_areTwo' l ad D cs h σ pre post (σ 0) (rfl) n o q hN hn) mv_X6_areTwo ml_RX6_174 rfl ⟨Nat.le_of_ble_eq_true rfl, Nat.le_of_ble_eq_true rfl⟩ ⟨rfl, rfl⟩ (q0 := 0) rfl rfl rfl rfl rfl rfl (Nat.le_of_ble_eq_true rfl) dX6_looks_3 ?_
  refine r_if_eq (pc := 6) C 19 dX6_looks_6 (by decide) (fun c_1 => ?_) (fun c_1 => ?_)
  · skip
    have c_1 := bI_0.mp c_1
    refine r_iconst (pc := 19) C (-1) dX6_looks_19 (by decide) ?_
    exact r_iret (pc := 20) C hr hlk dX6_looks_20 rfl (by first | (simp [looksA, *]; done) | simp_all [looksA]) rfl
  · skip
    have c_1 := bI_n.mp c_1
    obtain ⟨a_2, b_2, d_2⟩ := two_of c_1
    obtain ⟨j, h_j, rfl⟩ := one_nat (by omega) a_2
    have e_j : (nI j).toNatClampNeg = j := nI_clamp (by omega)
    obtain ⟨i, h_i, rfl⟩ := one_nat (by omega) b_2
    have e_i : (nI i).toNatClampNeg = i := nI_clamp (by omega)
    refine r_iload_n (pc := 9) C 3 dX6_looks_9 rfl rfl ?_
    refine r_i2l (pc := 10) C dX6_looks_10 ?_
    refine r_lconst (pc := 11) C 0 dX6_looks_11 (by decide) ?_
    refine r_lconst (pc := 12) C 1 dX6_looks_12 (by decide) ?_
    refine rc_Si (pc := 13) C (t_X6_isIn l ad D (tysW cs) (wM cs h σ) pre post  w (0 : Int32) (1 : Int32) ) ms_X6_isIn ml_RX6_57 rfl ⟨Nat.le_of_ble_eq_true rfl, Nat.le_of_ble_eq_true rfl⟩ ⟨rfl, rfl⟩ rfl rfl rfl (Nat.le_of_ble_eq_true rfl) dX6_looks_13 ?_
    refine r_if_ne (pc := 16) C 21 dX6_looks_16 (by decide) (fun c_3 => ?_) (fun c_3 => ?_)
    · skip
      have c_3 := bI_n.mp c_3
      refine r_sipush (pc := 21) C 1000 dX6_looks_21 (by decide) ?_
      refine r_iload_n (pc := 24) C 3 dX6_looks_24 rfl rfl ?_
      refine r_if_ne (pc := 25) C 37 dX6_looks_25 (by decide) (fun c_4 => ?_) (fun c_4 => ?_)
      · skip
        refine r_aload_n (pc := 37) C 0 dX6_looks_37 rfl rfl ?_
        refine r_iload_n (pc := 38) C 1 dX6_looks_38 rfl rfl ?_
        refine r_iload_n (pc := 39) C 2 dX6_looks_39 rfl rfl ?_
        refine rc_Vi (pc := 40) C (t_X6_offers' l ad D cs h σ pre post (σ 0) (rfl) n j i hn h_j h_i) mv_X6_offers ml_RX6_178 rfl ⟨Nat.le_of_ble_eq_true rfl, Nat.le_of_ble_eq_true rfl⟩ ⟨rfl, rfl⟩ (q0 := 0) rfl rfl rfl rfl rfl rfl (Nat.le_of_ble_eq_true rfl) dX6_looks_40 ?_
        refine r_iadd (pc := 43) C dX6_looks_43 ?_
        exact r_iret (pc := 44) C hr hlk dX6_looks_44 rfl (by first | (simp [looksA, *]; done) | simp_all [looksA]) rfl
      · skip
        refine r_aload_n (pc := 28) C 0 dX6_looks_28 rfl rfl ?_
        refine r_iload_n (pc := 29) C 1 dX6_looks_29 rfl rfl ?_
        refine r_iload_n (pc := 30) C 2 dX6_looks_30 rfl rfl ?_
        refine rc_Vi (pc := 31) C (t_X6_sees' l ad D cs h σ pre post (σ 0) (rfl) n j i hn h_j h_i) mv_X6_sees ml_RX6_165 rfl ⟨Nat.le_of_ble_eq_true rfl, Nat.le_of_ble_eq_true rfl⟩ ⟨rfl, rfl⟩ (q0 := 0) rfl rfl rfl rfl rfl rfl (Nat.le_of_ble_eq_true rfl) dX6_looks_31 ?_
        refine r_goto (pc := 34) C 43 dX6_looks_34 (by decide) ?_
        refine r_iadd (pc := 43) C dX6_looks_43 ?_
        exact r_iret (pc := 44) C hr hlk dX6_looks_44 rfl (by first | (simp [looksA, *]; done) | simp_all [looksA]) rfl
    · skip
      have c_3 := bI_0.mp c_3
      refine r_iconst (pc := 19) C (-1) dX6_looks_19 (by decide) ?_
      exact r_iret (pc := 20) C hr hlk dX6_looks_20 rfl (by first | (simp [looksA, *]; done) | simp_all [looksA]) rfl
theorem t_X6_looks' (l : Launch) (ad : Nat → Nat) (D : va_G) (cs : Nat → ClassId) (h : Nat → Nat) (σ : Nat → Nat → Int32) (pre post : va_W) (f0_ : Nat → Int32) (e0_ : σ 0 = f0_) (n : Nat) (o q w : Int32) (hN : f0_ 0 = nI n) (hn : n ≤ 8) : CTi l yX6_looks cX6_looks 4 .int ({ frames := 4, cells := 0, slots := 0, locals := 90 }) ad D (tysW cs) (pre ++ (wM cs h σ ++ post)) [.ref (h 0), .int o, .int q, .int w] (looksA n f0_ o q w) (pre ++ (wM cs h σ ++ post)) := by
  subst e0_
  exact t_X6_looks l ad D cs h σ pre post n o q w hN hn
theorem dX6_sumOf_0 : decode cX6_sumOf 0 = .ok (.iconst 0, 1) := by decide +kernel
theorem dX6_sumOf_1 : decode cX6_sumOf 1 = .ok (.istore_n 2, 1) := by decide +kernel
theorem dX6_sumOf_2 : decode cX6_sumOf 2 = .ok (.iconst 0, 1) := by decide +kernel
theorem dX6_sumOf_3 : decode cX6_sumOf 3 = .ok (.istore_n 3, 1) := by decide +kernel
theorem dX6_sumOf_4 : decode cX6_sumOf 4 = .ok (.iload_n 3, 1) := by decide +kernel
theorem dX6_sumOf_5 : decode cX6_sumOf 5 = .ok (.aload_n 0, 1) := by decide +kernel
theorem dX6_sumOf_6 : decode cX6_sumOf 6 = .ok (.getfield 7, 3) := by decide +kernel
theorem dX6_sumOf_9 : decode cX6_sumOf 9 = .ok (.iconst 0, 1) := by decide +kernel
theorem dX6_sumOf_10 : decode cX6_sumOf 10 = .ok (.iaload, 1) := by decide +kernel
theorem dX6_sumOf_11 : decode cX6_sumOf 11 = .ok (.if_icmp .ge 18, 3) := by decide +kernel
theorem dX6_sumOf_14 : decode cX6_sumOf 14 = .ok (.iload_n 2, 1) := by decide +kernel
theorem dX6_sumOf_15 : decode cX6_sumOf 15 = .ok (.aload_n 0, 1) := by decide +kernel
theorem dX6_sumOf_16 : decode cX6_sumOf 16 = .ok (.iload_n 3, 1) := by decide +kernel
theorem dX6_sumOf_17 : decode cX6_sumOf 17 = .ok (.iload_n 1, 1) := by decide +kernel
theorem dX6_sumOf_18 : decode cX6_sumOf 18 = .ok (.invokevirtual 156, 3) := by decide +kernel
theorem dX6_sumOf_21 : decode cX6_sumOf 21 = .ok (.iadd, 1) := by decide +kernel
theorem dX6_sumOf_22 : decode cX6_sumOf 22 = .ok (.istore_n 2, 1) := by decide +kernel
theorem dX6_sumOf_23 : decode cX6_sumOf 23 = .ok (.iinc 3 1, 3) := by decide +kernel
theorem dX6_sumOf_26 : decode cX6_sumOf 26 = .ok (.goto (-22), 3) := by decide +kernel
theorem dX6_sumOf_29 : decode cX6_sumOf 29 = .ok (.iload_n 2, 1) := by decide +kernel
theorem dX6_sumOf_30 : decode cX6_sumOf 30 = .ok (.ireturn, 1) := by decide +kernel
set_option maxHeartbeats 400000 in
set_option maxRecDepth 20000 in
theorem t_X6_sumOf (l : Launch) (ad : Nat → Nat) (D : va_G) (cs : Nat → ClassId) (h : Nat → Nat) (σ : Nat → Nat → Int32) (pre post : va_W) (n : Nat) (k : Nat) (hN : σ 0 0 = nI n) (hn : n ≤ 8) (hk : k < 5) : CTi l yX6_sumOf cX6_sumOf 4 .int ({ frames := 1, cells := 0, slots := 0, locals := 22 }) ad D (tysW cs) (pre ++ (wM cs h σ ++ post)) [.ref (h 0), .int (nI k)] (sumF (σ 0) k n) (pre ++ (wM cs h σ ++ post)) := by
  refine CTi.of (lv0 := [(0, .ref (h 0)), (1, .int (nI k))]) (by decide) rfl (Nat.le_of_ble_eq_true rfl) (fun p e s m args below meth c A C hr hlk => ?_)
  have C : Cx p s m args c cX6_sumOf 4 RX6 ad D (tysW cs) A := C
  refine r_iconst (pc := 0) C 0 dX6_sumOf_0 (by decide) ?_
  refine r_istore_n (pc := 1) C [(2, .int 0), (0, .ref (h 0)), (1, .int (nI k))] dX6_sumOf_1 rfl (by decide) rfl ?_
  refine r_iconst (pc := 2) C 0 dX6_sumOf_2 (by decide) ?_
  refine r_istore_n (pc := 3) C [(3, .int 0), (2, .int 0), (0, .ref (h 0)), (1, .int (nI k))] dX6_sumOf_3 rfl (by decide) rfl ?_
  refine r_pick (lv' := [(0, .ref (h 0)), (1, .int (nI k)), (2, .int 0), (3, .int 0)]) [2, 3, 1, 0] rfl ?_
  refine r_lv (lv' := [(0, .ref (h 0)), (1, .int (nI k)), (2, .int (sumF (σ 0) k 0)), (3, .int 0)]) (rfl) ?_
  refine r_loop (blkf := fun i => wM cs h σ) (lvf := fun i => [(0, .ref (h 0)), (1, .int (nI k)), (2, .int (sumF (σ 0) k i)), (3, .int (nI i))]) (fun i => True) n 0 (by omega) (trivial) (fun i h_i _ ih => ?_)
  show VX p l e _ s m args below meth c _ D A 4 pre (wM cs h σ) post 4 [(0, .ref (h 0)), (1, .int (nI k)), (2, .int (sumF (σ 0) k i)), (3, .int (nI i))] []
  refine r_iload_n (pc := 4) C 3 dX6_sumOf_4 rfl rfl ?_
  refine r_aload_n (pc := 5) C 0 dX6_sumOf_5 rfl rfl ?_
  refine mg_s (pc := 6) C fl_RX6_7 dX6_sumOf_6 ?_
  refine r_iconst (pc := 9) C 0 dX6_sumOf_9 (by decide) ?_
  refine al_s (pc := 10) C 0 (rfl) (by omega) dX6_sumOf_10 (σ 0 0) rfl ?_
  refine r_eqi (y := nI n) (hN) ?_
  refine r_icmp_ge (pc := 11) C 29 dX6_sumOf_11 (by decide) (fun c_1 => ?_) (fun c_1 => ?_)
  · skip
    have c_1 := nIc_ge_t (a := i) (b := n) (by omega) (by omega) c_1
    obtain rfl : n = i := by omega
    refine r_iload_n (pc := 29) C 2 dX6_sumOf_29 rfl rfl ?_
    exact r_iret (pc := 30) C hr hlk dX6_sumOf_30 rfl rfl rfl
  · skip
    have c_1 := nIc_ge_f (a := i) (b := n) (by omega) (by omega) c_1
    refine r_iload_n (pc := 14) C 2 dX6_sumOf_14 rfl rfl ?_
    refine r_aload_n (pc := 15) C 0 dX6_sumOf_15 rfl rfl ?_
    refine r_iload_n (pc := 16) C 3 dX6_sumOf_16 rfl rfl ?_
    refine r_iload_n (pc := 17) C 1 dX6_sumOf_17 rfl rfl ?_
    refine rc_Vi (pc := 18) C (t_X6_its' l ad D cs h σ pre post (σ 0) (rfl) i k (by omega) hk) mv_X6_its ml_RX6_156 rfl ⟨Nat.le_of_ble_eq_true rfl, Nat.le_of_ble_eq_true rfl⟩ ⟨rfl, rfl⟩ (q0 := 0) rfl rfl rfl rfl rfl rfl (Nat.le_of_ble_eq_true rfl) dX6_sumOf_18 ?_
    refine r_iadd (pc := 21) C dX6_sumOf_21 ?_
    refine r_istore_n (pc := 22) C [(2, .int ((sumF (σ 0) k i) + (σ 0 (8 + 5 * i + k)))), (0, .ref (h 0)), (1, .int (nI k)), (3, .int (nI i))] dX6_sumOf_22 rfl (by decide) rfl ?_
    refine r_iinc (pc := 23) C (nI (i + 1)) 3 [(3, .int (nI (i + 1))), (2, .int ((sumF (σ 0) k i) + (σ 0 (8 + 5 * i + k)))), (0, .ref (h 0)), (1, .int (nI k))] dX6_sumOf_23 rfl (nI_1 _) (by decide) rfl ?_
    refine r_goto (pc := 26) C 4 dX6_sumOf_26 (by decide) ?_
    refine r_pick (lv' := [(0, .ref (h 0)), (1, .int (nI k)), (2, .int ((sumF (σ 0) k i) + (σ 0 (8 + 5 * i + k)))), (3, .int (nI (i + 1)))]) [2, 3, 1, 0] rfl ?_
    refine r_lv (lv' := [(0, .ref (h 0)), (1, .int (nI k)), (2, .int (sumF (σ 0) k (i + 1))), (3, .int (nI (i + 1)))]) (rfl) ?_
    exact ih (by omega) (trivial)
theorem t_X6_sumOf' (l : Launch) (ad : Nat → Nat) (D : va_G) (cs : Nat → ClassId) (h : Nat → Nat) (σ : Nat → Nat → Int32) (pre post : va_W) (f0_ : Nat → Int32) (e0_ : σ 0 = f0_) (n : Nat) (k : Nat) (hN : f0_ 0 = nI n) (hn : n ≤ 8) (hk : k < 5) : CTi l yX6_sumOf cX6_sumOf 4 .int ({ frames := 1, cells := 0, slots := 0, locals := 22 }) ad D (tysW cs) (pre ++ (wM cs h σ ++ post)) [.ref (h 0), .int (nI k)] (sumF f0_ k n) (pre ++ (wM cs h σ ++ post)) := by
  subst e0_
  exact t_X6_sumOf l ad D cs h σ pre post n k hN hn hk
theorem dX6_onSteps_0 : decode cX6_onSteps 0 = .ok (.iconst 0, 1) := by decide +kernel
theorem dX6_onSteps_1 : decode cX6_onSteps 1 = .ok (.istore_n 1, 1) := by decide +kernel
theorem dX6_onSteps_2 : decode cX6_onSteps 2 = .ok (.iconst 0, 1) := by decide +kernel
theorem dX6_onSteps_3 : decode cX6_onSteps 3 = .ok (.istore_n 2, 1) := by decide +kernel
theorem dX6_onSteps_4 : decode cX6_onSteps 4 = .ok (.iload_n 2, 1) := by decide +kernel
theorem dX6_onSteps_5 : decode cX6_onSteps 5 = .ok (.aload_n 0, 1) := by decide +kernel
theorem dX6_onSteps_6 : decode cX6_onSteps 6 = .ok (.getfield 7, 3) := by decide +kernel
theorem dX6_onSteps_9 : decode cX6_onSteps 9 = .ok (.iconst 0, 1) := by decide +kernel
theorem dX6_onSteps_10 : decode cX6_onSteps 10 = .ok (.iaload, 1) := by decide +kernel
theorem dX6_onSteps_11 : decode cX6_onSteps 11 = .ok (.if_icmp .ge 28, 3) := by decide +kernel
theorem dX6_onSteps_14 : decode cX6_onSteps 14 = .ok (.iload_n 1, 1) := by decide +kernel
theorem dX6_onSteps_15 : decode cX6_onSteps 15 = .ok (.aload_n 0, 1) := by decide +kernel
theorem dX6_onSteps_16 : decode cX6_onSteps 16 = .ok (.iload_n 2, 1) := by decide +kernel
theorem dX6_onSteps_17 : decode cX6_onSteps 17 = .ok (.iconst 3, 1) := by decide +kernel
theorem dX6_onSteps_18 : decode cX6_onSteps 18 = .ok (.invokevirtual 156, 3) := by decide +kernel
theorem dX6_onSteps_21 : decode cX6_onSteps 21 = .ok (.ifCond .ne 9, 3) := by decide +kernel
theorem dX6_onSteps_24 : decode cX6_onSteps 24 = .ok (.iconst 1, 1) := by decide +kernel
theorem dX6_onSteps_25 : decode cX6_onSteps 25 = .ok (.iload_n 2, 1) := by decide +kernel
theorem dX6_onSteps_26 : decode cX6_onSteps 26 = .ok (.ishl, 1) := by decide +kernel
theorem dX6_onSteps_27 : decode cX6_onSteps 27 = .ok (.goto 4, 3) := by decide +kernel
theorem dX6_onSteps_30 : decode cX6_onSteps 30 = .ok (.iconst 0, 1) := by decide +kernel
theorem dX6_onSteps_31 : decode cX6_onSteps 31 = .ok (.ior, 1) := by decide +kernel
theorem dX6_onSteps_32 : decode cX6_onSteps 32 = .ok (.istore_n 1, 1) := by decide +kernel
theorem dX6_onSteps_33 : decode cX6_onSteps 33 = .ok (.iinc 2 1, 3) := by decide +kernel
theorem dX6_onSteps_36 : decode cX6_onSteps 36 = .ok (.goto (-32), 3) := by decide +kernel
theorem dX6_onSteps_39 : decode cX6_onSteps 39 = .ok (.iload_n 1, 1) := by decide +kernel
theorem dX6_onSteps_40 : decode cX6_onSteps 40 = .ok (.ireturn, 1) := by decide +kernel
set_option maxHeartbeats 400000 in
set_option maxRecDepth 20000 in
theorem t_X6_onSteps (l : Launch) (ad : Nat → Nat) (D : va_G) (cs : Nat → ClassId) (h : Nat → Nat) (σ : Nat → Nat → Int32) (pre post : va_W) (n : Nat) (hN : σ 0 0 = nI n) (hn : n ≤ 8) : CTi l yX6_onSteps cX6_onSteps 3 .int ({ frames := 1, cells := 0, slots := 0, locals := 22 }) ad D (tysW cs) (pre ++ (wM cs h σ ++ post)) [.ref (h 0)] (onF (σ 0) n) (pre ++ (wM cs h σ ++ post)) := by
  refine CTi.of (lv0 := [(0, .ref (h 0))]) (by decide) rfl (Nat.le_of_ble_eq_true rfl) (fun p e s m args below meth c A C hr hlk => ?_)
  have C : Cx p s m args c cX6_onSteps 3 RX6 ad D (tysW cs) A := C
  refine r_iconst (pc := 0) C 0 dX6_onSteps_0 (by decide) ?_
  refine r_istore_n (pc := 1) C [(1, .int 0), (0, .ref (h 0))] dX6_onSteps_1 rfl (by decide) rfl ?_
  refine r_iconst (pc := 2) C 0 dX6_onSteps_2 (by decide) ?_
  refine r_istore_n (pc := 3) C [(2, .int 0), (1, .int 0), (0, .ref (h 0))] dX6_onSteps_3 rfl (by decide) rfl ?_
  refine r_pick (lv' := [(0, .ref (h 0)), (1, .int 0), (2, .int 0)]) [2, 1, 0] rfl ?_
  refine r_lv (lv' := [(0, .ref (h 0)), (1, .int (onF (σ 0) 0)), (2, .int 0)]) (rfl) ?_
  refine r_loop (blkf := fun i => wM cs h σ) (lvf := fun i => [(0, .ref (h 0)), (1, .int (onF (σ 0) i)), (2, .int (nI i))]) (fun i => True) n 0 (by omega) (trivial) (fun i h_i _ ih => ?_)
  show VX p l e _ s m args below meth c _ D A 3 pre (wM cs h σ) post 4 [(0, .ref (h 0)), (1, .int (onF (σ 0) i)), (2, .int (nI i))] []
  refine r_iload_n (pc := 4) C 2 dX6_onSteps_4 rfl rfl ?_
  refine r_aload_n (pc := 5) C 0 dX6_onSteps_5 rfl rfl ?_
  refine mg_s (pc := 6) C fl_RX6_7 dX6_onSteps_6 ?_
  refine r_iconst (pc := 9) C 0 dX6_onSteps_9 (by decide) ?_
  refine al_s (pc := 10) C 0 (rfl) (by omega) dX6_onSteps_10 (σ 0 0) rfl ?_
  refine r_eqi (y := nI n) (hN) ?_
  refine r_icmp_ge (pc := 11) C 39 dX6_onSteps_11 (by decide) (fun c_1 => ?_) (fun c_1 => ?_)
  · skip
    have c_1 := nIc_ge_t (a := i) (b := n) (by omega) (by omega) c_1
    obtain rfl : n = i := by omega
    refine r_iload_n (pc := 39) C 1 dX6_onSteps_39 rfl rfl ?_
    exact r_iret (pc := 40) C hr hlk dX6_onSteps_40 rfl rfl rfl
  · skip
    have c_1 := nIc_ge_f (a := i) (b := n) (by omega) (by omega) c_1
    refine r_iload_n (pc := 14) C 1 dX6_onSteps_14 rfl rfl ?_
    refine r_aload_n (pc := 15) C 0 dX6_onSteps_15 rfl rfl ?_
    refine r_iload_n (pc := 16) C 2 dX6_onSteps_16 rfl rfl ?_
    refine r_iconst (pc := 17) C 3 dX6_onSteps_17 (by decide) ?_
    refine rc_Vi (pc := 18) C (t_X6_its' l ad D cs h σ pre post (σ 0) (rfl) i 3 (by omega) (by omega)) mv_X6_its ml_RX6_156 rfl ⟨Nat.le_of_ble_eq_true rfl, Nat.le_of_ble_eq_true rfl⟩ ⟨rfl, rfl⟩ (q0 := 0) rfl rfl rfl rfl rfl rfl (Nat.le_of_ble_eq_true rfl) dX6_onSteps_18 ?_
    refine r_if_ne (pc := 21) C 30 dX6_onSteps_21 (by decide) (fun c_2 => ?_) (fun c_2 => ?_)
    · skip
      refine r_iconst (pc := 30) C 0 dX6_onSteps_30 (by decide) ?_
      refine r_ior (pc := 31) C dX6_onSteps_31 ?_
      refine r_istore_n (pc := 32) C [(1, .int ((onF (σ 0) i) ||| 0)), (0, .ref (h 0)), (2, .int (nI i))] dX6_onSteps_32 rfl (by decide) rfl ?_
      refine r_iinc (pc := 33) C (nI (i + 1)) 2 [(2, .int (nI (i + 1))), (1, .int ((onF (σ 0) i) ||| 0)), (0, .ref (h 0))] dX6_onSteps_33 rfl (nI_1 _) (by decide) rfl ?_
      refine r_goto (pc := 36) C 4 dX6_onSteps_36 (by decide) ?_
      refine r_pick (lv' := [(0, .ref (h 0)), (1, .int ((onF (σ 0) i) ||| 0)), (2, .int (nI (i + 1)))]) [2, 1, 0] rfl ?_
      refine r_lv (lv' := [(0, .ref (h 0)), (1, .int (onF (σ 0) (i + 1))), (2, .int (nI (i + 1)))]) (lvc rfl (lvc (congrArg Value.int (show ((onF (σ 0) i) ||| 0 : Int32) = onF (σ 0) (i + 1) from (by simp [onF, bitI, *]))) (lvc rfl rfl))) ?_
      exact ih (by omega) (trivial)
    · skip
      refine r_iconst (pc := 24) C 1 dX6_onSteps_24 (by decide) ?_
      refine r_iload_n (pc := 25) C 2 dX6_onSteps_25 rfl rfl ?_
      refine r_ishl (pc := 26) C dX6_onSteps_26 ?_
      refine r_goto (pc := 27) C 31 dX6_onSteps_27 (by decide) ?_
      refine r_ior (pc := 31) C dX6_onSteps_31 ?_
      refine r_istore_n (pc := 32) C [(1, .int ((onF (σ 0) i) ||| (1 <<< ((nI i) &&& 31)))), (0, .ref (h 0)), (2, .int (nI i))] dX6_onSteps_32 rfl (by decide) rfl ?_
      refine r_iinc (pc := 33) C (nI (i + 1)) 2 [(2, .int (nI (i + 1))), (1, .int ((onF (σ 0) i) ||| (1 <<< ((nI i) &&& 31)))), (0, .ref (h 0))] dX6_onSteps_33 rfl (nI_1 _) (by decide) rfl ?_
      refine r_goto (pc := 36) C 4 dX6_onSteps_36 (by decide) ?_
      refine r_pick (lv' := [(0, .ref (h 0)), (1, .int ((onF (σ 0) i) ||| (1 <<< ((nI i) &&& 31)))), (2, .int (nI (i + 1)))]) [2, 1, 0] rfl ?_
      refine r_lv (lv' := [(0, .ref (h 0)), (1, .int (onF (σ 0) (i + 1))), (2, .int (nI (i + 1)))]) (lvc rfl (lvc (congrArg Value.int (show ((onF (σ 0) i) ||| (1 <<< ((nI i) &&& 31)) : Int32) = onF (σ 0) (i + 1) from (by simp [onF, bitI, *]))) (lvc rfl rfl))) ?_
      exact ih (by omega) (trivial)
theorem t_X6_onSteps' (l : Launch) (ad : Nat → Nat) (D : va_G) (cs : Nat → ClassId) (h : Nat → Nat) (σ : Nat → Nat → Int32) (pre post : va_W) (f0_ : Nat → Int32) (e0_ : σ 0 = f0_) (n : Nat) (hN : f0_ 0 = nI n) (hn : n ≤ 8) : CTi l yX6_onSteps cX6_onSteps 3 .int ({ frames := 1, cells := 0, slots := 0, locals := 22 }) ad D (tysW cs) (pre ++ (wM cs h σ ++ post)) [.ref (h 0)] (onF f0_ n) (pre ++ (wM cs h σ ++ post)) := by
  subst e0_
  exact t_X6_onSteps l ad D cs h σ pre post n hN hn
theorem dX6_fairWith_0 : decode cX6_fairWith 0 = .ok (.iconst 0, 1) := by decide +kernel
theorem dX6_fairWith_1 : decode cX6_fairWith 1 = .ok (.istore_n 2, 1) := by decide +kernel
theorem dX6_fairWith_2 : decode cX6_fairWith 2 = .ok (.iconst 0, 1) := by decide +kernel
theorem dX6_fairWith_3 : decode cX6_fairWith 3 = .ok (.istore_n 3, 1) := by decide +kernel
theorem dX6_fairWith_4 : decode cX6_fairWith 4 = .ok (.iload_n 3, 1) := by decide +kernel
theorem dX6_fairWith_5 : decode cX6_fairWith 5 = .ok (.aload_n 0, 1) := by decide +kernel
theorem dX6_fairWith_6 : decode cX6_fairWith 6 = .ok (.getfield 7, 3) := by decide +kernel
theorem dX6_fairWith_9 : decode cX6_fairWith 9 = .ok (.iconst 0, 1) := by decide +kernel
theorem dX6_fairWith_10 : decode cX6_fairWith 10 = .ok (.iaload, 1) := by decide +kernel
theorem dX6_fairWith_11 : decode cX6_fairWith 11 = .ok (.if_icmp .ge 39, 3) := by decide +kernel
theorem dX6_fairWith_14 : decode cX6_fairWith 14 = .ok (.iload_n 2, 1) := by decide +kernel
theorem dX6_fairWith_15 : decode cX6_fairWith 15 = .ok (.iload_n 3, 1) := by decide +kernel
theorem dX6_fairWith_16 : decode cX6_fairWith 16 = .ok (.iload_n 1, 1) := by decide +kernel
theorem dX6_fairWith_17 : decode cX6_fairWith 17 = .ok (.if_icmp .eq 24, 3) := by decide +kernel
theorem dX6_fairWith_20 : decode cX6_fairWith 20 = .ok (.aload_n 0, 1) := by decide +kernel
theorem dX6_fairWith_21 : decode cX6_fairWith 21 = .ok (.iload_n 1, 1) := by decide +kernel
theorem dX6_fairWith_22 : decode cX6_fairWith 22 = .ok (.iload_n 3, 1) := by decide +kernel
theorem dX6_fairWith_23 : decode cX6_fairWith 23 = .ok (.invokevirtual 178, 3) := by decide +kernel
theorem dX6_fairWith_26 : decode cX6_fairWith 26 = .ok (.aload_n 0, 1) := by decide +kernel
theorem dX6_fairWith_27 : decode cX6_fairWith 27 = .ok (.iload_n 3, 1) := by decide +kernel
theorem dX6_fairWith_28 : decode cX6_fairWith 28 = .ok (.iload_n 1, 1) := by decide +kernel
theorem dX6_fairWith_29 : decode cX6_fairWith 29 = .ok (.invokevirtual 178, 3) := by decide +kernel
theorem dX6_fairWith_32 : decode cX6_fairWith 32 = .ok (.if_icmp .ne 9, 3) := by decide +kernel
theorem dX6_fairWith_35 : decode cX6_fairWith 35 = .ok (.iconst 1, 1) := by decide +kernel
theorem dX6_fairWith_36 : decode cX6_fairWith 36 = .ok (.iload_n 3, 1) := by decide +kernel
theorem dX6_fairWith_37 : decode cX6_fairWith 37 = .ok (.ishl, 1) := by decide +kernel
theorem dX6_fairWith_38 : decode cX6_fairWith 38 = .ok (.goto 4, 3) := by decide +kernel
theorem dX6_fairWith_41 : decode cX6_fairWith 41 = .ok (.iconst 0, 1) := by decide +kernel
theorem dX6_fairWith_42 : decode cX6_fairWith 42 = .ok (.ior, 1) := by decide +kernel
theorem dX6_fairWith_43 : decode cX6_fairWith 43 = .ok (.istore_n 2, 1) := by decide +kernel
theorem dX6_fairWith_44 : decode cX6_fairWith 44 = .ok (.iinc 3 1, 3) := by decide +kernel
theorem dX6_fairWith_47 : decode cX6_fairWith 47 = .ok (.goto (-43), 3) := by decide +kernel
theorem dX6_fairWith_50 : decode cX6_fairWith 50 = .ok (.iload_n 2, 1) := by decide +kernel
theorem dX6_fairWith_51 : decode cX6_fairWith 51 = .ok (.ireturn, 1) := by decide +kernel
set_option maxHeartbeats 400000 in
set_option maxRecDepth 20000 in
theorem t_X6_fairWith (l : Launch) (ad : Nat → Nat) (D : va_G) (cs : Nat → ClassId) (h : Nat → Nat) (σ : Nat → Nat → Int32) (pre post : va_W) (n : Nat) (o : Nat) (hN : σ 0 0 = nI n) (hn : n ≤ 8) (ho : o < n) : CTi l yX6_fairWith cX6_fairWith 4 .int ({ frames := 4, cells := 0, slots := 0, locals := 90 }) ad D (tysW cs) (pre ++ (wM cs h σ ++ post)) [.ref (h 0), .int (nI o)] (fairF (σ 0) o n) (pre ++ (wM cs h σ ++ post)) := by
  refine CTi.of (lv0 := [(0, .ref (h 0)), (1, .int (nI o))]) (by decide) rfl (Nat.le_of_ble_eq_true rfl) (fun p e s m args below meth c A C hr hlk => ?_)
  have C : Cx p s m args c cX6_fairWith 4 RX6 ad D (tysW cs) A := C
  refine r_iconst (pc := 0) C 0 dX6_fairWith_0 (by decide) ?_
  refine r_istore_n (pc := 1) C [(2, .int 0), (0, .ref (h 0)), (1, .int (nI o))] dX6_fairWith_1 rfl (by decide) rfl ?_
  refine r_iconst (pc := 2) C 0 dX6_fairWith_2 (by decide) ?_
  refine r_istore_n (pc := 3) C [(3, .int 0), (2, .int 0), (0, .ref (h 0)), (1, .int (nI o))] dX6_fairWith_3 rfl (by decide) rfl ?_
  refine r_pick (lv' := [(0, .ref (h 0)), (1, .int (nI o)), (2, .int 0), (3, .int 0)]) [2, 3, 1, 0] rfl ?_
  refine r_lv (lv' := [(0, .ref (h 0)), (1, .int (nI o)), (2, .int (fairF (σ 0) o 0)), (3, .int 0)]) (rfl) ?_
  refine r_loop (blkf := fun i => wM cs h σ) (lvf := fun i => [(0, .ref (h 0)), (1, .int (nI o)), (2, .int (fairF (σ 0) o i)), (3, .int (nI i))]) (fun i => True) n 0 (by omega) (trivial) (fun i h_i _ ih => ?_)
  show VX p l e _ s m args below meth c _ D A 4 pre (wM cs h σ) post 4 [(0, .ref (h 0)), (1, .int (nI o)), (2, .int (fairF (σ 0) o i)), (3, .int (nI i))] []
  refine r_iload_n (pc := 4) C 3 dX6_fairWith_4 rfl rfl ?_
  refine r_aload_n (pc := 5) C 0 dX6_fairWith_5 rfl rfl ?_
  refine mg_s (pc := 6) C fl_RX6_7 dX6_fairWith_6 ?_
  refine r_iconst (pc := 9) C 0 dX6_fairWith_9 (by decide) ?_
  refine al_s (pc := 10) C 0 (rfl) (by omega) dX6_fairWith_10 (σ 0 0) rfl ?_
  refine r_eqi (y := nI n) (hN) ?_
  refine r_icmp_ge (pc := 11) C 50 dX6_fairWith_11 (by decide) (fun c_1 => ?_) (fun c_1 => ?_)
  · skip
    have c_1 := nIc_ge_t (a := i) (b := n) (by omega) (by omega) c_1
    obtain rfl : n = i := by omega
    refine r_iload_n (pc := 50) C 2 dX6_fairWith_50 rfl rfl ?_
    exact r_iret (pc := 51) C hr hlk dX6_fairWith_51 rfl rfl rfl
  · skip
    have c_1 := nIc_ge_f (a := i) (b := n) (by omega) (by omega) c_1
    refine r_iload_n (pc := 14) C 2 dX6_fairWith_14 rfl rfl ?_
    refine r_iload_n (pc := 15) C 3 dX6_fairWith_15 rfl rfl ?_
    refine r_iload_n (pc := 16) C 1 dX6_fairWith_16 rfl rfl ?_
    refine r_icmp_eq (pc := 17) C 41 dX6_fairWith_17 (by decide) (fun c_2 => ?_) (fun c_2 => ?_)
    · skip
      have c_2 := nIc_eq_t (a := i) (b := o) (by omega) (by omega) c_2
      refine r_iconst (pc := 41) C 0 dX6_fairWith_41 (by decide) ?_
      refine r_ior (pc := 42) C dX6_fairWith_42 ?_
      refine r_istore_n (pc := 43) C [(2, .int ((fairF (σ 0) o i) ||| 0)), (0, .ref (h 0)), (1, .int (nI o)), (3, .int (nI i))] dX6_fairWith_43 rfl (by decide) rfl ?_
      refine r_iinc (pc := 44) C (nI (i + 1)) 3 [(3, .int (nI (i + 1))), (2, .int ((fairF (σ 0) o i) ||| 0)), (0, .ref (h 0)), (1, .int (nI o))] dX6_fairWith_44 rfl (nI_1 _) (by decide) rfl ?_
      refine r_goto (pc := 47) C 4 dX6_fairWith_47 (by decide) ?_
      refine r_pick (lv' := [(0, .ref (h 0)), (1, .int (nI o)), (2, .int ((fairF (σ 0) o i) ||| 0)), (3, .int (nI (i + 1)))]) [2, 3, 1, 0] rfl ?_
      refine r_lv (lv' := [(0, .ref (h 0)), (1, .int (nI o)), (2, .int (fairF (σ 0) o (i + 1))), (3, .int (nI (i + 1)))]) (lvc rfl (lvc rfl (lvc (congrArg Value.int (show ((fairF (σ 0) o i) ||| 0 : Int32) = fairF (σ 0) o (i + 1) from (by simp [fairF, bitI, *]))) (lvc rfl rfl)))) ?_
      exact ih (by omega) (trivial)
    · skip
      have c_2 := nIc_eq_f (a := i) (b := o) (by omega) (by omega) c_2
      refine r_aload_n (pc := 20) C 0 dX6_fairWith_20 rfl rfl ?_
      refine r_iload_n (pc := 21) C 1 dX6_fairWith_21 rfl rfl ?_
      refine r_iload_n (pc := 22) C 3 dX6_fairWith_22 rfl rfl ?_
      refine rc_Vi (pc := 23) C (t_X6_offers' l ad D cs h σ pre post (σ 0) (rfl) n o i hn ho (by omega)) mv_X6_offers ml_RX6_178 rfl ⟨Nat.le_of_ble_eq_true rfl, Nat.le_of_ble_eq_true rfl⟩ ⟨rfl, rfl⟩ (q0 := 0) rfl rfl rfl rfl rfl rfl (Nat.le_of_ble_eq_true rfl) dX6_fairWith_23 ?_
      refine r_aload_n (pc := 26) C 0 dX6_fairWith_26 rfl rfl ?_
      refine r_iload_n (pc := 27) C 3 dX6_fairWith_27 rfl rfl ?_
      refine r_iload_n (pc := 28) C 1 dX6_fairWith_28 rfl rfl ?_
      refine rc_Vi (pc := 29) C (t_X6_offers' l ad D cs h σ pre post (σ 0) (rfl) n i o hn (by omega) ho) mv_X6_offers ml_RX6_178 rfl ⟨Nat.le_of_ble_eq_true rfl, Nat.le_of_ble_eq_true rfl⟩ ⟨rfl, rfl⟩ (q0 := 0) rfl rfl rfl rfl rfl rfl (Nat.le_of_ble_eq_true rfl) dX6_fairWith_29 ?_
      refine r_icmp_ne (pc := 32) C 41 dX6_fairWith_32 (by decide) (fun c_3 => ?_) (fun c_3 => ?_)
      · skip
        refine r_iconst (pc := 41) C 0 dX6_fairWith_41 (by decide) ?_
        refine r_ior (pc := 42) C dX6_fairWith_42 ?_
        refine r_istore_n (pc := 43) C [(2, .int ((fairF (σ 0) o i) ||| 0)), (0, .ref (h 0)), (1, .int (nI o)), (3, .int (nI i))] dX6_fairWith_43 rfl (by decide) rfl ?_
        refine r_iinc (pc := 44) C (nI (i + 1)) 3 [(3, .int (nI (i + 1))), (2, .int ((fairF (σ 0) o i) ||| 0)), (0, .ref (h 0)), (1, .int (nI o))] dX6_fairWith_44 rfl (nI_1 _) (by decide) rfl ?_
        refine r_goto (pc := 47) C 4 dX6_fairWith_47 (by decide) ?_
        refine r_pick (lv' := [(0, .ref (h 0)), (1, .int (nI o)), (2, .int ((fairF (σ 0) o i) ||| 0)), (3, .int (nI (i + 1)))]) [2, 3, 1, 0] rfl ?_
        refine r_lv (lv' := [(0, .ref (h 0)), (1, .int (nI o)), (2, .int (fairF (σ 0) o (i + 1))), (3, .int (nI (i + 1)))]) (lvc rfl (lvc rfl (lvc (congrArg Value.int (show ((fairF (σ 0) o i) ||| 0 : Int32) = fairF (σ 0) o (i + 1) from (by simp [fairF, bitI, *]))) (lvc rfl rfl)))) ?_
        exact ih (by omega) (trivial)
      · skip
        refine r_iconst (pc := 35) C 1 dX6_fairWith_35 (by decide) ?_
        refine r_iload_n (pc := 36) C 3 dX6_fairWith_36 rfl rfl ?_
        refine r_ishl (pc := 37) C dX6_fairWith_37 ?_
        refine r_goto (pc := 38) C 42 dX6_fairWith_38 (by decide) ?_
        refine r_ior (pc := 42) C dX6_fairWith_42 ?_
        refine r_istore_n (pc := 43) C [(2, .int ((fairF (σ 0) o i) ||| (1 <<< ((nI i) &&& 31)))), (0, .ref (h 0)), (1, .int (nI o)), (3, .int (nI i))] dX6_fairWith_43 rfl (by decide) rfl ?_
        refine r_iinc (pc := 44) C (nI (i + 1)) 3 [(3, .int (nI (i + 1))), (2, .int ((fairF (σ 0) o i) ||| (1 <<< ((nI i) &&& 31)))), (0, .ref (h 0)), (1, .int (nI o))] dX6_fairWith_44 rfl (nI_1 _) (by decide) rfl ?_
        refine r_goto (pc := 47) C 4 dX6_fairWith_47 (by decide) ?_
        refine r_pick (lv' := [(0, .ref (h 0)), (1, .int (nI o)), (2, .int ((fairF (σ 0) o i) ||| (1 <<< ((nI i) &&& 31)))), (3, .int (nI (i + 1)))]) [2, 3, 1, 0] rfl ?_
        refine r_lv (lv' := [(0, .ref (h 0)), (1, .int (nI o)), (2, .int (fairF (σ 0) o (i + 1))), (3, .int (nI (i + 1)))]) (lvc rfl (lvc rfl (lvc (congrArg Value.int (show ((fairF (σ 0) o i) ||| (1 <<< ((nI i) &&& 31)) : Int32) = fairF (σ 0) o (i + 1) from (by simp [fairF, bitI, *]))) (lvc rfl rfl)))) ?_
        exact ih (by omega) (trivial)
theorem t_X6_fairWith' (l : Launch) (ad : Nat → Nat) (D : va_G) (cs : Nat → ClassId) (h : Nat → Nat) (σ : Nat → Nat → Int32) (pre post : va_W) (f0_ : Nat → Int32) (e0_ : σ 0 = f0_) (n : Nat) (o : Nat) (hN : f0_ 0 = nI n) (hn : n ≤ 8) (ho : o < n) : CTi l yX6_fairWith cX6_fairWith 4 .int ({ frames := 4, cells := 0, slots := 0, locals := 90 }) ad D (tysW cs) (pre ++ (wM cs h σ ++ post)) [.ref (h 0), .int (nI o)] (fairF f0_ o n) (pre ++ (wM cs h σ ++ post)) := by
  subst e0_
  exact t_X6_fairWith l ad D cs h σ pre post n o hN hn ho
theorem dX6_worthOf_0 : decode cX6_worthOf 0 = .ok (.iconst 0, 1) := by decide +kernel
theorem dX6_worthOf_1 : decode cX6_worthOf 1 = .ok (.aload_n 0, 1) := by decide +kernel
theorem dX6_worthOf_2 : decode cX6_worthOf 2 = .ok (.iload_n 1, 1) := by decide +kernel
theorem dX6_worthOf_3 : decode cX6_worthOf 3 = .ok (.iload_n 2, 1) := by decide +kernel
theorem dX6_worthOf_4 : decode cX6_worthOf 4 = .ok (.invokevirtual 178, 3) := by decide +kernel
theorem dX6_worthOf_7 : decode cX6_worthOf 7 = .ok (.invokestatic 186, 3) := by decide +kernel
theorem dX6_worthOf_10 : decode cX6_worthOf 10 = .ok (.iconst 0, 1) := by decide +kernel
theorem dX6_worthOf_11 : decode cX6_worthOf 11 = .ok (.aload_n 0, 1) := by decide +kernel
theorem dX6_worthOf_12 : decode cX6_worthOf 12 = .ok (.iload_n 2, 1) := by decide +kernel
theorem dX6_worthOf_13 : decode cX6_worthOf 13 = .ok (.iload_n 1, 1) := by decide +kernel
theorem dX6_worthOf_14 : decode cX6_worthOf 14 = .ok (.invokevirtual 178, 3) := by decide +kernel
theorem dX6_worthOf_17 : decode cX6_worthOf 17 = .ok (.invokestatic 186, 3) := by decide +kernel
theorem dX6_worthOf_20 : decode cX6_worthOf 20 = .ok (.iadd, 1) := by decide +kernel
theorem dX6_worthOf_21 : decode cX6_worthOf 21 = .ok (.ireturn, 1) := by decide +kernel
set_option maxHeartbeats 400000 in
set_option maxRecDepth 20000 in
theorem t_X6_worthOf (l : Launch) (ad : Nat → Nat) (D : va_G) (cs : Nat → ClassId) (h : Nat → Nat) (σ : Nat → Nat → Int32) (pre post : va_W) (n : Nat) (a b : Nat) (hN : σ 0 0 = nI n) (hn : n ≤ 8) (ha : a < n) (hb : b < n) : CTi l yX6_worthOf cX6_worthOf 3 .int ({ frames := 4, cells := 0, slots := 0, locals := 90 }) ad D (tysW cs) (pre ++ (wM cs h σ ++ post)) [.ref (h 0), .int (nI a), .int (nI b)] (mxI 0 (offersF (σ 0) a b) + mxI 0 (offersF (σ 0) b a)) (pre ++ (wM cs h σ ++ post)) := by
  refine CTi.of (lv0 := [(0, .ref (h 0)), (1, .int (nI a)), (2, .int (nI b))]) (by decide) rfl (Nat.le_of_ble_eq_true rfl) (fun p e s m args below meth c A C hr hlk => ?_)
  have C : Cx p s m args c cX6_worthOf 3 RX6 ad D (tysW cs) A := C
  refine r_iconst (pc := 0) C 0 dX6_worthOf_0 (by decide) ?_
  refine r_aload_n (pc := 1) C 0 dX6_worthOf_1 rfl rfl ?_
  refine r_iload_n (pc := 2) C 1 dX6_worthOf_2 rfl rfl ?_
  refine r_iload_n (pc := 3) C 2 dX6_worthOf_3 rfl rfl ?_
  refine rc_Vi (pc := 4) C (t_X6_offers' l ad D cs h σ pre post (σ 0) (rfl) n a b hn ha hb) mv_X6_offers ml_RX6_178 rfl ⟨Nat.le_of_ble_eq_true rfl, Nat.le_of_ble_eq_true rfl⟩ ⟨rfl, rfl⟩ (q0 := 0) rfl rfl rfl rfl rfl rfl (Nat.le_of_ble_eq_true rfl) dX6_worthOf_4 ?_
  refine rc_Si (pc := 7) C (t_X6_greatest l ad D (tysW cs) (wM cs h σ) pre post  (0 : Int32) (offersF (σ 0) a b) ) ms_X6_greatest ml_RX6_186 rfl ⟨Nat.le_of_ble_eq_true rfl, Nat.le_of_ble_eq_true rfl⟩ ⟨rfl, rfl⟩ rfl rfl rfl (Nat.le_of_ble_eq_true rfl) dX6_worthOf_7 ?_
  refine r_iconst (pc := 10) C 0 dX6_worthOf_10 (by decide) ?_
  refine r_aload_n (pc := 11) C 0 dX6_worthOf_11 rfl rfl ?_
  refine r_iload_n (pc := 12) C 2 dX6_worthOf_12 rfl rfl ?_
  refine r_iload_n (pc := 13) C 1 dX6_worthOf_13 rfl rfl ?_
  refine rc_Vi (pc := 14) C (t_X6_offers' l ad D cs h σ pre post (σ 0) (rfl) n b a hn hb ha) mv_X6_offers ml_RX6_178 rfl ⟨Nat.le_of_ble_eq_true rfl, Nat.le_of_ble_eq_true rfl⟩ ⟨rfl, rfl⟩ (q0 := 0) rfl rfl rfl rfl rfl rfl (Nat.le_of_ble_eq_true rfl) dX6_worthOf_14 ?_
  refine rc_Si (pc := 17) C (t_X6_greatest l ad D (tysW cs) (wM cs h σ) pre post  (0 : Int32) (offersF (σ 0) b a) ) ms_X6_greatest ml_RX6_186 rfl ⟨Nat.le_of_ble_eq_true rfl, Nat.le_of_ble_eq_true rfl⟩ ⟨rfl, rfl⟩ rfl rfl rfl (Nat.le_of_ble_eq_true rfl) dX6_worthOf_17 ?_
  refine r_iadd (pc := 20) C dX6_worthOf_20 ?_
  exact r_iret (pc := 21) C hr hlk dX6_worthOf_21 rfl (by first | rfl | simp [bI, *]) rfl
theorem t_X6_worthOf' (l : Launch) (ad : Nat → Nat) (D : va_G) (cs : Nat → ClassId) (h : Nat → Nat) (σ : Nat → Nat → Int32) (pre post : va_W) (f0_ : Nat → Int32) (e0_ : σ 0 = f0_) (n : Nat) (a b : Nat) (hN : f0_ 0 = nI n) (hn : n ≤ 8) (ha : a < n) (hb : b < n) : CTi l yX6_worthOf cX6_worthOf 3 .int ({ frames := 4, cells := 0, slots := 0, locals := 90 }) ad D (tysW cs) (pre ++ (wM cs h σ ++ post)) [.ref (h 0), .int (nI a), .int (nI b)] (mxI 0 (offersF f0_ a b) + mxI 0 (offersF f0_ b a)) (pre ++ (wM cs h σ ++ post)) := by
  subst e0_
  exact t_X6_worthOf l ad D cs h σ pre post n a b hN hn ha hb
theorem dX6_pays_0 : decode cX6_pays 0 = .ok (.iload_n 1, 1) := by decide +kernel
theorem dX6_pays_1 : decode cX6_pays 1 = .ok (.iconst 1, 1) := by decide +kernel
theorem dX6_pays_2 : decode cX6_pays 2 = .ok (.iadd, 1) := by decide +kernel
theorem dX6_pays_3 : decode cX6_pays 3 = .ok (.aload_n 0, 1) := by decide +kernel
theorem dX6_pays_4 : decode cX6_pays 4 = .ok (.getfield 7, 3) := by decide +kernel
theorem dX6_pays_7 : decode cX6_pays 7 = .ok (.iconst 0, 1) := by decide +kernel
theorem dX6_pays_8 : decode cX6_pays 8 = .ok (.iaload, 1) := by decide +kernel
theorem dX6_pays_9 : decode cX6_pays 9 = .ok (.irem, 1) := by decide +kernel
theorem dX6_pays_10 : decode cX6_pays 10 = .ok (.istore_n 2, 1) := by decide +kernel
theorem dX6_pays_11 : decode cX6_pays 11 = .ok (.iconst 0, 1) := by decide +kernel
theorem dX6_pays_12 : decode cX6_pays 12 = .ok (.aload_n 0, 1) := by decide +kernel
theorem dX6_pays_13 : decode cX6_pays 13 = .ok (.iload_n 1, 1) := by decide +kernel
theorem dX6_pays_14 : decode cX6_pays 14 = .ok (.iload_n 2, 1) := by decide +kernel
theorem dX6_pays_15 : decode cX6_pays 15 = .ok (.invokevirtual 178, 3) := by decide +kernel
theorem dX6_pays_18 : decode cX6_pays 18 = .ok (.invokestatic 186, 3) := by decide +kernel
theorem dX6_pays_21 : decode cX6_pays 21 = .ok (.aload_n 0, 1) := by decide +kernel
theorem dX6_pays_22 : decode cX6_pays 22 = .ok (.iload_n 1, 1) := by decide +kernel
theorem dX6_pays_23 : decode cX6_pays 23 = .ok (.iconst 4, 1) := by decide +kernel
theorem dX6_pays_24 : decode cX6_pays 24 = .ok (.invokevirtual 156, 3) := by decide +kernel
theorem dX6_pays_27 : decode cX6_pays 27 = .ok (.invokestatic 159, 3) := by decide +kernel
theorem dX6_pays_30 : decode cX6_pays 30 = .ok (.istore_n 3, 1) := by decide +kernel
theorem dX6_pays_31 : decode cX6_pays 31 = .ok (.iload_n 3, 1) := by decide +kernel
theorem dX6_pays_32 : decode cX6_pays 32 = .ok (.aload_n 0, 1) := by decide +kernel
theorem dX6_pays_33 : decode cX6_pays 33 = .ok (.getfield 7, 3) := by decide +kernel
theorem dX6_pays_36 : decode cX6_pays 36 = .ok (.bipush 6, 2) := by decide +kernel
theorem dX6_pays_38 : decode cX6_pays 38 = .ok (.iaload, 1) := by decide +kernel
theorem dX6_pays_39 : decode cX6_pays 39 = .ok (.invokestatic 159, 3) := by decide +kernel
theorem dX6_pays_42 : decode cX6_pays 42 = .ok (.istore 4, 2) := by decide +kernel
theorem dX6_pays_44 : decode cX6_pays 44 = .ok (.aload_n 0, 1) := by decide +kernel
theorem dX6_pays_45 : decode cX6_pays 45 = .ok (.getfield 7, 3) := by decide +kernel
theorem dX6_pays_48 : decode cX6_pays 48 = .ok (.bipush 8, 2) := by decide +kernel
theorem dX6_pays_50 : decode cX6_pays 50 = .ok (.iconst 5, 1) := by decide +kernel
theorem dX6_pays_51 : decode cX6_pays 51 = .ok (.iload_n 1, 1) := by decide +kernel
theorem dX6_pays_52 : decode cX6_pays 52 = .ok (.imul, 1) := by decide +kernel
theorem dX6_pays_53 : decode cX6_pays 53 = .ok (.iadd, 1) := by decide +kernel
theorem dX6_pays_54 : decode cX6_pays 54 = .ok (.iconst 4, 1) := by decide +kernel
theorem dX6_pays_55 : decode cX6_pays 55 = .ok (.iadd, 1) := by decide +kernel
theorem dX6_pays_56 : decode cX6_pays 56 = .ok (.dup2, 1) := by decide +kernel
theorem dX6_pays_57 : decode cX6_pays 57 = .ok (.iaload, 1) := by decide +kernel
theorem dX6_pays_58 : decode cX6_pays 58 = .ok (.iload_n 3, 1) := by decide +kernel
theorem dX6_pays_59 : decode cX6_pays 59 = .ok (.isub, 1) := by decide +kernel
theorem dX6_pays_60 : decode cX6_pays 60 = .ok (.iastore, 1) := by decide +kernel
theorem dX6_pays_61 : decode cX6_pays 61 = .ok (.aload_n 0, 1) := by decide +kernel
theorem dX6_pays_62 : decode cX6_pays 62 = .ok (.getfield 7, 3) := by decide +kernel
theorem dX6_pays_65 : decode cX6_pays 65 = .ok (.iconst 3, 1) := by decide +kernel
theorem dX6_pays_66 : decode cX6_pays 66 = .ok (.ldc 189, 2) := by decide +kernel
theorem dX6_pays_68 : decode cX6_pays 68 = .ok (.aload_n 0, 1) := by decide +kernel
theorem dX6_pays_69 : decode cX6_pays 69 = .ok (.getfield 7, 3) := by decide +kernel
theorem dX6_pays_72 : decode cX6_pays 72 = .ok (.iconst 3, 1) := by decide +kernel
theorem dX6_pays_73 : decode cX6_pays 73 = .ok (.iaload, 1) := by decide +kernel
theorem dX6_pays_74 : decode cX6_pays 74 = .ok (.iload 4, 2) := by decide +kernel
theorem dX6_pays_76 : decode cX6_pays 76 = .ok (.iadd, 1) := by decide +kernel
theorem dX6_pays_77 : decode cX6_pays 77 = .ok (.invokestatic 159, 3) := by decide +kernel
theorem dX6_pays_80 : decode cX6_pays 80 = .ok (.iastore, 1) := by decide +kernel
theorem dX6_pays_81 : decode cX6_pays 81 = .ok (.aload_n 0, 1) := by decide +kernel
theorem dX6_pays_82 : decode cX6_pays 82 = .ok (.getfield 7, 3) := by decide +kernel
theorem dX6_pays_85 : decode cX6_pays 85 = .ok (.bipush 8, 2) := by decide +kernel
theorem dX6_pays_87 : decode cX6_pays 87 = .ok (.iconst 5, 1) := by decide +kernel
theorem dX6_pays_88 : decode cX6_pays 88 = .ok (.iload_n 2, 1) := by decide +kernel
theorem dX6_pays_89 : decode cX6_pays 89 = .ok (.imul, 1) := by decide +kernel
theorem dX6_pays_90 : decode cX6_pays 90 = .ok (.iadd, 1) := by decide +kernel
theorem dX6_pays_91 : decode cX6_pays 91 = .ok (.iconst 4, 1) := by decide +kernel
theorem dX6_pays_92 : decode cX6_pays 92 = .ok (.iadd, 1) := by decide +kernel
theorem dX6_pays_93 : decode cX6_pays 93 = .ok (.sipush 9999, 3) := by decide +kernel
theorem dX6_pays_96 : decode cX6_pays 96 = .ok (.aload_n 0, 1) := by decide +kernel
theorem dX6_pays_97 : decode cX6_pays 97 = .ok (.iload_n 2, 1) := by decide +kernel
theorem dX6_pays_98 : decode cX6_pays 98 = .ok (.iconst 4, 1) := by decide +kernel
theorem dX6_pays_99 : decode cX6_pays 99 = .ok (.invokevirtual 156, 3) := by decide +kernel
theorem dX6_pays_102 : decode cX6_pays 102 = .ok (.iload_n 3, 1) := by decide +kernel
theorem dX6_pays_103 : decode cX6_pays 103 = .ok (.iadd, 1) := by decide +kernel
theorem dX6_pays_104 : decode cX6_pays 104 = .ok (.iload 4, 2) := by decide +kernel
theorem dX6_pays_106 : decode cX6_pays 106 = .ok (.isub, 1) := by decide +kernel
theorem dX6_pays_107 : decode cX6_pays 107 = .ok (.invokestatic 159, 3) := by decide +kernel
theorem dX6_pays_110 : decode cX6_pays 110 = .ok (.iastore, 1) := by decide +kernel
theorem dX6_pays_111 : decode cX6_pays 111 = .ok (.return_, 1) := by decide +kernel
set_option maxHeartbeats 400000 in
set_option maxRecDepth 20000 in
theorem t_X6_pays (l : Launch) (ad : Nat → Nat) (D : va_G) (cs : Nat → ClassId) (h : Nat → Nat) (σ : Nat → Nat → Int32) (pre post : va_W) (n : Nat) (o : Nat) (hN : σ 0 0 = nI n) (hn : n ≤ 8) (ho : o < n) : CTv l yX6_pays cX6_pays 5 ({ frames := 4, cells := 0, slots := 0, locals := 90 }) ad D (tysW cs) (pre ++ (wM cs h σ ++ post)) [.ref (h 0), .int (nI o)] (pre ++ (wM cs h (su σ 0 (payF n (σ 0) o)) ++ post)) := by
  refine CTv.of (lv0 := [(0, .ref (h 0)), (1, .int (nI o))]) (by decide) rfl (Nat.le_of_ble_eq_true rfl) (fun p e s m args below meth c A C hr hlk => ?_)
  have C : Cx p s m args c cX6_pays 5 RX6 ad D (tysW cs) A := C
  have hq : nxtO n o < n := nxtO_lt (by omega)
  refine r_iload_n (pc := 0) C 1 dX6_pays_0 rfl rfl ?_
  refine r_iconst (pc := 1) C 1 dX6_pays_1 (by decide) ?_
  refine r_iadd (pc := 2) C dX6_pays_2 ?_
  refine r_eqi (y := nI (o + 1)) (nI_add o 1) ?_
  refine r_aload_n (pc := 3) C 0 dX6_pays_3 rfl rfl ?_
  refine mg_s (pc := 4) C fl_RX6_7 dX6_pays_4 ?_
  refine r_iconst (pc := 7) C 0 dX6_pays_7 (by decide) ?_
  refine al_s (pc := 8) C 0 (rfl) (by omega) dX6_pays_8 (σ 0 0) rfl ?_
  refine r_eqi (y := nI n) (hN) ?_
  refine r_irem (pc := 9) C dX6_pays_9 (nI_ne0 (by omega) (by omega)) ?_
  refine r_eqi (y := nI (nxtO n o)) (pk_rem (by omega) (by omega) (by omega)) ?_
  refine r_istore_n (pc := 10) C [(2, .int (nI (nxtO n o))), (0, .ref (h 0)), (1, .int (nI o))] dX6_pays_10 rfl (by decide) rfl ?_
  refine r_iconst (pc := 11) C 0 dX6_pays_11 (by decide) ?_
  refine r_aload_n (pc := 12) C 1 dX6_pays_12 rfl rfl ?_
  refine r_iload_n (pc := 13) C 2 dX6_pays_13 rfl rfl ?_
  refine r_iload_n (pc := 14) C 0 dX6_pays_14 rfl rfl ?_
  refine rc_Vi (pc := 15) C (t_X6_offers' l ad D cs h σ pre post (σ 0) (rfl) n o (nxtO n o) hn ho (by omega)) mv_X6_offers ml_RX6_178 rfl ⟨Nat.le_of_ble_eq_true rfl, Nat.le_of_ble_eq_true rfl⟩ ⟨rfl, rfl⟩ (q0 := 0) rfl rfl rfl rfl rfl rfl (Nat.le_of_ble_eq_true rfl) dX6_pays_15 ?_
  refine rc_Si (pc := 18) C (t_X6_greatest l ad D (tysW cs) (wM cs h σ) pre post  (0 : Int32) (offersF (σ 0) o (nxtO n o)) ) ms_X6_greatest ml_RX6_186 rfl ⟨Nat.le_of_ble_eq_true rfl, Nat.le_of_ble_eq_true rfl⟩ ⟨rfl, rfl⟩ rfl rfl rfl (Nat.le_of_ble_eq_true rfl) dX6_pays_18 ?_
  refine r_aload_n (pc := 21) C 1 dX6_pays_21 rfl rfl ?_
  refine r_iload_n (pc := 22) C 2 dX6_pays_22 rfl rfl ?_
  refine r_iconst (pc := 23) C 4 dX6_pays_23 (by decide) ?_
  refine rc_Vi (pc := 24) C (t_X6_its' l ad D cs h σ pre post (σ 0) (rfl) o 4 (by omega) (by omega)) mv_X6_its ml_RX6_156 rfl ⟨Nat.le_of_ble_eq_true rfl, Nat.le_of_ble_eq_true rfl⟩ ⟨rfl, rfl⟩ (q0 := 0) rfl rfl rfl rfl rfl rfl (Nat.le_of_ble_eq_true rfl) dX6_pays_24 ?_
  refine rc_Si (pc := 27) C (t_X6_least l ad D (tysW cs) (wM cs h σ) pre post  (mxI (0 : Int32) (offersF (σ 0) o (nxtO n o))) (σ 0 (8 + 5 * o + 4)) ) ms_X6_least ml_RX6_159 rfl ⟨Nat.le_of_ble_eq_true rfl, Nat.le_of_ble_eq_true rfl⟩ ⟨rfl, rfl⟩ rfl rfl rfl (Nat.le_of_ble_eq_true rfl) dX6_pays_27 ?_
  refine r_istore_n (pc := 30) C [(3, .int (mnI (mxI (0 : Int32) (offersF (σ 0) o (nxtO n o))) (σ 0 (8 + 5 * o + 4)))), (2, .int (nI (nxtO n o))), (0, .ref (h 0)), (1, .int (nI o))] dX6_pays_30 rfl (by decide) rfl ?_
  refine r_iload_n (pc := 31) C 0 dX6_pays_31 rfl rfl ?_
  refine r_aload_n (pc := 32) C 2 dX6_pays_32 rfl rfl ?_
  refine mg_s (pc := 33) C fl_RX6_7 dX6_pays_33 ?_
  refine r_bipush (pc := 36) C 6 dX6_pays_36 (by decide) ?_
  refine al_s (pc := 38) C 6 (rfl) (by omega) dX6_pays_38 (σ 0 6) rfl ?_
  refine rc_Si (pc := 39) C (t_X6_least l ad D (tysW cs) (wM cs h σ) pre post  (mnI (mxI (0 : Int32) (offersF (σ 0) o (nxtO n o))) (σ 0 (8 + 5 * o + 4))) (σ 0 6) ) ms_X6_least ml_RX6_159 rfl ⟨Nat.le_of_ble_eq_true rfl, Nat.le_of_ble_eq_true rfl⟩ ⟨rfl, rfl⟩ rfl rfl rfl (Nat.le_of_ble_eq_true rfl) dX6_pays_39 ?_
  refine r_istore (pc := 42) C [(4, .int (mnI (mnI (mxI (0 : Int32) (offersF (σ 0) o (nxtO n o))) (σ 0 (8 + 5 * o + 4))) (σ 0 6))), (3, .int (mnI (mxI (0 : Int32) (offersF (σ 0) o (nxtO n o))) (σ 0 (8 + 5 * o + 4)))), (2, .int (nI (nxtO n o))), (0, .ref (h 0)), (1, .int (nI o))] dX6_pays_42 (by decide) rfl ?_
  refine r_aload_n (pc := 44) C 3 dX6_pays_44 rfl rfl ?_
  refine mg_s (pc := 45) C fl_RX6_7 dX6_pays_45 ?_
  refine r_bipush (pc := 48) C 8 dX6_pays_48 (by decide) ?_
  refine r_iconst (pc := 50) C 5 dX6_pays_50 (by decide) ?_
  refine r_iload_n (pc := 51) C 4 dX6_pays_51 rfl rfl ?_
  refine r_imul (pc := 52) C dX6_pays_52 ?_
  refine r_eqi (y := nI (5 * o)) (pk_mul 5 o) ?_
  refine r_iadd (pc := 53) C dX6_pays_53 ?_
  refine r_eqi (y := nI (8 + 5 * o)) (nI_add 8 (5 * o)) ?_
  refine r_iconst (pc := 54) C 4 dX6_pays_54 (by decide) ?_
  refine r_iadd (pc := 55) C dX6_pays_55 ?_
  refine r_eqi (y := nI (8 + 5 * o + 4)) (nI_add (8 + 5 * o) 4) ?_
  refine r_dup2 (pc := 56) C dX6_pays_56 rfl rfl ?_
  refine al_s (pc := 57) C (8 + 5 * o + 4) (rfl) (by omega) dX6_pays_57 (σ 0 (8 + 5 * o + 4)) rfl ?_
  refine r_iload_n (pc := 58) C 1 dX6_pays_58 rfl rfl ?_
  refine r_isub (pc := 59) C dX6_pays_59 ?_
  refine as_s (pc := 60) C (8 + 5 * o + 4) (rfl) (by omega) dX6_pays_60 (σ 0) (rfl) ?_
  refine r_aload_n (pc := 61) C 3 dX6_pays_61 rfl rfl ?_
  refine mg_s (pc := 62) C fl_RX6_7 dX6_pays_62 ?_
  refine r_iconst (pc := 65) C 3 dX6_pays_65 (by decide) ?_
  refine r_ldc (pc := 66) C dX6_pays_66 cn_RX6_189 ?_
  refine r_aload_n (pc := 68) C 3 dX6_pays_68 rfl rfl ?_
  refine mg_s (pc := 69) C fl_RX6_7 dX6_pays_69 ?_
  refine r_iconst (pc := 72) C 3 dX6_pays_72 (by decide) ?_
  refine al_s (pc := 73) C 3 (rfl) (by omega) dX6_pays_73 (upd (σ 0) (8 + 5 * o + 4) ((σ 0 (8 + 5 * o + 4)) - (mnI (mxI (0 : Int32) (offersF (σ 0) o (nxtO n o))) (σ 0 (8 + 5 * o + 4)))) 3) (congrFun (su_at) _) ?_
  refine r_iload (pc := 74) C 0 dX6_pays_74 rfl ?_
  refine r_iadd (pc := 76) C dX6_pays_76 ?_
  refine rc_Si (pc := 77) C (t_X6_least l ad D (tysW cs) (wM cs h (su σ 0 (upd (σ 0) (8 + 5 * o + 4) ((σ 0 (8 + 5 * o + 4)) - (mnI (mxI (0 : Int32) (offersF (σ 0) o (nxtO n o))) (σ 0 (8 + 5 * o + 4))))))) pre post  (99999 : Int32) ((upd (σ 0) (8 + 5 * o + 4) ((σ 0 (8 + 5 * o + 4)) - (mnI (mxI (0 : Int32) (offersF (σ 0) o (nxtO n o))) (σ 0 (8 + 5 * o + 4)))) 3) + (mnI (mnI (mxI (0 : Int32) (offersF (σ 0) o (nxtO n o))) (σ 0 (8 + 5 * o + 4))) (σ 0 6))) ) ms_X6_least ml_RX6_159 rfl ⟨Nat.le_of_ble_eq_true rfl, Nat.le_of_ble_eq_true rfl⟩ ⟨rfl, rfl⟩ rfl rfl rfl (Nat.le_of_ble_eq_true rfl) dX6_pays_77 ?_
  refine as_s (pc := 80) C 3 (rfl) (by omega) dX6_pays_80 (upd (σ 0) (8 + 5 * o + 4) ((σ 0 (8 + 5 * o + 4)) - (mnI (mxI (0 : Int32) (offersF (σ 0) o (nxtO n o))) (σ 0 (8 + 5 * o + 4))))) (su_at) ?_
  refine r_blk (blk' := wM cs h (su σ 0 (upd (upd (σ 0) (8 + 5 * o + 4) ((σ 0 (8 + 5 * o + 4)) - (mnI (mxI (0 : Int32) (offersF (σ 0) o (nxtO n o))) (σ 0 (8 + 5 * o + 4))))) 3 (mnI (99999 : Int32) ((upd (σ 0) (8 + 5 * o + 4) ((σ 0 (8 + 5 * o + 4)) - (mnI (mxI (0 : Int32) (offersF (σ 0) o (nxtO n o))) (σ 0 (8 + 5 * o + 4)))) 3) + (mnI (mnI (mxI (0 : Int32) (offersF (σ 0) o (nxtO n o))) (σ 0 (8 + 5 * o + 4))) (σ 0 6))))))) (congrArg (wM cs h) (by rw [su_su])) ?_
  refine r_aload_n (pc := 81) C 3 dX6_pays_81 rfl rfl ?_
  refine mg_s (pc := 82) C fl_RX6_7 dX6_pays_82 ?_
  refine r_bipush (pc := 85) C 8 dX6_pays_85 (by decide) ?_
  refine r_iconst (pc := 87) C 5 dX6_pays_87 (by decide) ?_
  refine r_iload_n (pc := 88) C 2 dX6_pays_88 rfl rfl ?_
  refine r_imul (pc := 89) C dX6_pays_89 ?_
  refine r_eqi (y := nI (5 * (nxtO n o))) (pk_mul 5 (nxtO n o)) ?_
  refine r_iadd (pc := 90) C dX6_pays_90 ?_
  refine r_eqi (y := nI (8 + 5 * (nxtO n o))) (nI_add 8 (5 * (nxtO n o))) ?_
  refine r_iconst (pc := 91) C 4 dX6_pays_91 (by decide) ?_
  refine r_iadd (pc := 92) C dX6_pays_92 ?_
  refine r_eqi (y := nI (8 + 5 * (nxtO n o) + 4)) (nI_add (8 + 5 * (nxtO n o)) 4) ?_
  refine r_sipush (pc := 93) C 9999 dX6_pays_93 (by decide) ?_
  refine r_aload_n (pc := 96) C 3 dX6_pays_96 rfl rfl ?_
  refine r_iload_n (pc := 97) C 2 dX6_pays_97 rfl rfl ?_
  refine r_iconst (pc := 98) C 4 dX6_pays_98 (by decide) ?_
  refine rc_Vi (pc := 99) C (t_X6_its' l ad D cs h (su σ 0 (upd (upd (σ 0) (8 + 5 * o + 4) ((σ 0 (8 + 5 * o + 4)) - (mnI (mxI (0 : Int32) (offersF (σ 0) o (nxtO n o))) (σ 0 (8 + 5 * o + 4))))) 3 (mnI (99999 : Int32) ((upd (σ 0) (8 + 5 * o + 4) ((σ 0 (8 + 5 * o + 4)) - (mnI (mxI (0 : Int32) (offersF (σ 0) o (nxtO n o))) (σ 0 (8 + 5 * o + 4)))) 3) + (mnI (mnI (mxI (0 : Int32) (offersF (σ 0) o (nxtO n o))) (σ 0 (8 + 5 * o + 4))) (σ 0 6)))))) pre post (upd (upd (σ 0) (8 + 5 * o + 4) ((σ 0 (8 + 5 * o + 4)) - (mnI (mxI (0 : Int32) (offersF (σ 0) o (nxtO n o))) (σ 0 (8 + 5 * o + 4))))) 3 (mnI (99999 : Int32) ((upd (σ 0) (8 + 5 * o + 4) ((σ 0 (8 + 5 * o + 4)) - (mnI (mxI (0 : Int32) (offersF (σ 0) o (nxtO n o))) (σ 0 (8 + 5 * o + 4)))) 3) + (mnI (mnI (mxI (0 : Int32) (offersF (σ 0) o (nxtO n o))) (σ 0 (8 + 5 * o + 4))) (σ 0 6))))) (su_at) (nxtO n o) 4 (by omega) (by omega)) mv_X6_its ml_RX6_156 rfl ⟨Nat.le_of_ble_eq_true rfl, Nat.le_of_ble_eq_true rfl⟩ ⟨rfl, rfl⟩ (q0 := 0) rfl rfl rfl rfl rfl rfl (Nat.le_of_ble_eq_true rfl) dX6_pays_99 ?_
  refine r_iload_n (pc := 102) C 1 dX6_pays_102 rfl rfl ?_
  refine r_iadd (pc := 103) C dX6_pays_103 ?_
  refine r_iload (pc := 104) C 0 dX6_pays_104 rfl ?_
  refine r_isub (pc := 106) C dX6_pays_106 ?_
  refine rc_Si (pc := 107) C (t_X6_least l ad D (tysW cs) (wM cs h (su σ 0 (upd (upd (σ 0) (8 + 5 * o + 4) ((σ 0 (8 + 5 * o + 4)) - (mnI (mxI (0 : Int32) (offersF (σ 0) o (nxtO n o))) (σ 0 (8 + 5 * o + 4))))) 3 (mnI (99999 : Int32) ((upd (σ 0) (8 + 5 * o + 4) ((σ 0 (8 + 5 * o + 4)) - (mnI (mxI (0 : Int32) (offersF (σ 0) o (nxtO n o))) (σ 0 (8 + 5 * o + 4)))) 3) + (mnI (mnI (mxI (0 : Int32) (offersF (σ 0) o (nxtO n o))) (σ 0 (8 + 5 * o + 4))) (σ 0 6))))))) pre post  (9999 : Int32) (((upd (upd (σ 0) (8 + 5 * o + 4) ((σ 0 (8 + 5 * o + 4)) - (mnI (mxI (0 : Int32) (offersF (σ 0) o (nxtO n o))) (σ 0 (8 + 5 * o + 4))))) 3 (mnI (99999 : Int32) ((upd (σ 0) (8 + 5 * o + 4) ((σ 0 (8 + 5 * o + 4)) - (mnI (mxI (0 : Int32) (offersF (σ 0) o (nxtO n o))) (σ 0 (8 + 5 * o + 4)))) 3) + (mnI (mnI (mxI (0 : Int32) (offersF (σ 0) o (nxtO n o))) (σ 0 (8 + 5 * o + 4))) (σ 0 6)))) (8 + 5 * (nxtO n o) + 4)) + (mnI (mxI (0 : Int32) (offersF (σ 0) o (nxtO n o))) (σ 0 (8 + 5 * o + 4)))) - (mnI (mnI (mxI (0 : Int32) (offersF (σ 0) o (nxtO n o))) (σ 0 (8 + 5 * o + 4))) (σ 0 6))) ) ms_X6_least ml_RX6_159 rfl ⟨Nat.le_of_ble_eq_true rfl, Nat.le_of_ble_eq_true rfl⟩ ⟨rfl, rfl⟩ rfl rfl rfl (Nat.le_of_ble_eq_true rfl) dX6_pays_107 ?_
  refine as_s (pc := 110) C (8 + 5 * (nxtO n o) + 4) (rfl) (by omega) dX6_pays_110 (upd (upd (σ 0) (8 + 5 * o + 4) ((σ 0 (8 + 5 * o + 4)) - (mnI (mxI (0 : Int32) (offersF (σ 0) o (nxtO n o))) (σ 0 (8 + 5 * o + 4))))) 3 (mnI (99999 : Int32) ((upd (σ 0) (8 + 5 * o + 4) ((σ 0 (8 + 5 * o + 4)) - (mnI (mxI (0 : Int32) (offersF (σ 0) o (nxtO n o))) (σ 0 (8 + 5 * o + 4)))) 3) + (mnI (mnI (mxI (0 : Int32) (offersF (σ 0) o (nxtO n o))) (σ 0 (8 + 5 * o + 4))) (σ 0 6))))) (su_at) ?_
  refine r_blk (blk' := wM cs h (su σ 0 (upd (upd (upd (σ 0) (8 + 5 * o + 4) ((σ 0 (8 + 5 * o + 4)) - (mnI (mxI (0 : Int32) (offersF (σ 0) o (nxtO n o))) (σ 0 (8 + 5 * o + 4))))) 3 (mnI (99999 : Int32) ((upd (σ 0) (8 + 5 * o + 4) ((σ 0 (8 + 5 * o + 4)) - (mnI (mxI (0 : Int32) (offersF (σ 0) o (nxtO n o))) (σ 0 (8 + 5 * o + 4)))) 3) + (mnI (mnI (mxI (0 : Int32) (offersF (σ 0) o (nxtO n o))) (σ 0 (8 + 5 * o + 4))) (σ 0 6))))) (8 + 5 * (nxtO n o) + 4) (mnI (9999 : Int32) (((upd (upd (σ 0) (8 + 5 * o + 4) ((σ 0 (8 + 5 * o + 4)) - (mnI (mxI (0 : Int32) (offersF (σ 0) o (nxtO n o))) (σ 0 (8 + 5 * o + 4))))) 3 (mnI (99999 : Int32) ((upd (σ 0) (8 + 5 * o + 4) ((σ 0 (8 + 5 * o + 4)) - (mnI (mxI (0 : Int32) (offersF (σ 0) o (nxtO n o))) (σ 0 (8 + 5 * o + 4)))) 3) + (mnI (mnI (mxI (0 : Int32) (offersF (σ 0) o (nxtO n o))) (σ 0 (8 + 5 * o + 4))) (σ 0 6)))) (8 + 5 * (nxtO n o) + 4)) + (mnI (mxI (0 : Int32) (offersF (σ 0) o (nxtO n o))) (σ 0 (8 + 5 * o + 4)))) - (mnI (mnI (mxI (0 : Int32) (offersF (σ 0) o (nxtO n o))) (σ 0 (8 + 5 * o + 4))) (σ 0 6))))))) (congrArg (wM cs h) (by rw [su_su])) ?_
  exact r_vret (pc := 111) C hr hlk dX6_pays_111 rfl
theorem t_X6_pays' (l : Launch) (ad : Nat → Nat) (D : va_G) (cs : Nat → ClassId) (h : Nat → Nat) (σ : Nat → Nat → Int32) (pre post : va_W) (f0_ : Nat → Int32) (e0_ : σ 0 = f0_) (n : Nat) (o : Nat) (hN : f0_ 0 = nI n) (hn : n ≤ 8) (ho : o < n) : CTv l yX6_pays cX6_pays 5 ({ frames := 4, cells := 0, slots := 0, locals := 90 }) ad D (tysW cs) (pre ++ (wM cs h σ ++ post)) [.ref (h 0), .int (nI o)] (pre ++ (wM cs h (su σ 0 (payF n f0_ o)) ++ post)) := by
  subst e0_
  exact t_X6_pays l ad D cs h σ pre post n o hN hn ho
theorem dX6_goesOn_0 : decode cX6_goesOn 0 = .ok (.iconst 0, 1) := by decide +kernel
theorem dX6_goesOn_1 : decode cX6_goesOn 1 = .ok (.istore_n 1, 1) := by decide +kernel
theorem dX6_goesOn_2 : decode cX6_goesOn 2 = .ok (.iload_n 1, 1) := by decide +kernel
theorem dX6_goesOn_3 : decode cX6_goesOn 3 = .ok (.aload_n 0, 1) := by decide +kernel
theorem dX6_goesOn_4 : decode cX6_goesOn 4 = .ok (.getfield 7, 3) := by decide +kernel
theorem dX6_goesOn_7 : decode cX6_goesOn 7 = .ok (.iconst 0, 1) := by decide +kernel
theorem dX6_goesOn_8 : decode cX6_goesOn 8 = .ok (.iaload, 1) := by decide +kernel
theorem dX6_goesOn_9 : decode cX6_goesOn 9 = .ok (.if_icmp .ge 24, 3) := by decide +kernel
theorem dX6_goesOn_12 : decode cX6_goesOn 12 = .ok (.aload_n 0, 1) := by decide +kernel
theorem dX6_goesOn_13 : decode cX6_goesOn 13 = .ok (.getfield 7, 3) := by decide +kernel
theorem dX6_goesOn_16 : decode cX6_goesOn 16 = .ok (.iconst 0, 1) := by decide +kernel
theorem dX6_goesOn_17 : decode cX6_goesOn 17 = .ok (.iaload, 1) := by decide +kernel
theorem dX6_goesOn_18 : decode cX6_goesOn 18 = .ok (.iconst 1, 1) := by decide +kernel
theorem dX6_goesOn_19 : decode cX6_goesOn 19 = .ok (.if_icmp .le 14, 3) := by decide +kernel
theorem dX6_goesOn_22 : decode cX6_goesOn 22 = .ok (.aload_n 0, 1) := by decide +kernel
theorem dX6_goesOn_23 : decode cX6_goesOn 23 = .ok (.iload_n 1, 1) := by decide +kernel
theorem dX6_goesOn_24 : decode cX6_goesOn 24 = .ok (.invokevirtual 190, 3) := by decide +kernel
theorem dX6_goesOn_27 : decode cX6_goesOn 27 = .ok (.iinc 1 1, 3) := by decide +kernel
theorem dX6_goesOn_30 : decode cX6_goesOn 30 = .ok (.goto (-28), 3) := by decide +kernel
theorem dX6_goesOn_33 : decode cX6_goesOn 33 = .ok (.iconst 0, 1) := by decide +kernel
theorem dX6_goesOn_34 : decode cX6_goesOn 34 = .ok (.istore_n 1, 1) := by decide +kernel
theorem dX6_goesOn_35 : decode cX6_goesOn 35 = .ok (.iload_n 1, 1) := by decide +kernel
theorem dX6_goesOn_36 : decode cX6_goesOn 36 = .ok (.aload_n 0, 1) := by decide +kernel
theorem dX6_goesOn_37 : decode cX6_goesOn 37 = .ok (.getfield 7, 3) := by decide +kernel
theorem dX6_goesOn_40 : decode cX6_goesOn 40 = .ok (.iconst 0, 1) := by decide +kernel
theorem dX6_goesOn_41 : decode cX6_goesOn 41 = .ok (.iaload, 1) := by decide +kernel
theorem dX6_goesOn_42 : decode cX6_goesOn 42 = .ok (.if_icmp .ge 37, 3) := by decide +kernel
theorem dX6_goesOn_45 : decode cX6_goesOn 45 = .ok (.aload_n 0, 1) := by decide +kernel
theorem dX6_goesOn_46 : decode cX6_goesOn 46 = .ok (.getfield 7, 3) := by decide +kernel
theorem dX6_goesOn_49 : decode cX6_goesOn 49 = .ok (.bipush 8, 2) := by decide +kernel
theorem dX6_goesOn_51 : decode cX6_goesOn 51 = .ok (.iconst 5, 1) := by decide +kernel
theorem dX6_goesOn_52 : decode cX6_goesOn 52 = .ok (.iload_n 1, 1) := by decide +kernel
theorem dX6_goesOn_53 : decode cX6_goesOn 53 = .ok (.imul, 1) := by decide +kernel
theorem dX6_goesOn_54 : decode cX6_goesOn 54 = .ok (.iadd, 1) := by decide +kernel
theorem dX6_goesOn_55 : decode cX6_goesOn 55 = .ok (.iconst 3, 1) := by decide +kernel
theorem dX6_goesOn_56 : decode cX6_goesOn 56 = .ok (.iadd, 1) := by decide +kernel
theorem dX6_goesOn_57 : decode cX6_goesOn 57 = .ok (.aload_n 0, 1) := by decide +kernel
theorem dX6_goesOn_58 : decode cX6_goesOn 58 = .ok (.iload_n 1, 1) := by decide +kernel
theorem dX6_goesOn_59 : decode cX6_goesOn 59 = .ok (.iconst 3, 1) := by decide +kernel
theorem dX6_goesOn_60 : decode cX6_goesOn 60 = .ok (.invokevirtual 156, 3) := by decide +kernel
theorem dX6_goesOn_63 : decode cX6_goesOn 63 = .ok (.aload_n 0, 1) := by decide +kernel
theorem dX6_goesOn_64 : decode cX6_goesOn 64 = .ok (.iload_n 1, 1) := by decide +kernel
theorem dX6_goesOn_65 : decode cX6_goesOn 65 = .ok (.invokevirtual 171, 3) := by decide +kernel
theorem dX6_goesOn_68 : decode cX6_goesOn 68 = .ok (.isub, 1) := by decide +kernel
theorem dX6_goesOn_69 : decode cX6_goesOn 69 = .ok (.invokestatic 193, 3) := by decide +kernel
theorem dX6_goesOn_72 : decode cX6_goesOn 72 = .ok (.iastore, 1) := by decide +kernel
theorem dX6_goesOn_73 : decode cX6_goesOn 73 = .ok (.iinc 1 1, 3) := by decide +kernel
theorem dX6_goesOn_76 : decode cX6_goesOn 76 = .ok (.goto (-41), 3) := by decide +kernel
theorem dX6_goesOn_79 : decode cX6_goesOn 79 = .ok (.aload_n 0, 1) := by decide +kernel
theorem dX6_goesOn_80 : decode cX6_goesOn 80 = .ok (.getfield 7, 3) := by decide +kernel
theorem dX6_goesOn_83 : decode cX6_goesOn 83 = .ok (.iconst 1, 1) := by decide +kernel
theorem dX6_goesOn_84 : decode cX6_goesOn 84 = .ok (.dup2, 1) := by decide +kernel
theorem dX6_goesOn_85 : decode cX6_goesOn 85 = .ok (.iaload, 1) := by decide +kernel
theorem dX6_goesOn_86 : decode cX6_goesOn 86 = .ok (.iconst 1, 1) := by decide +kernel
theorem dX6_goesOn_87 : decode cX6_goesOn 87 = .ok (.iadd, 1) := by decide +kernel
theorem dX6_goesOn_88 : decode cX6_goesOn 88 = .ok (.iastore, 1) := by decide +kernel
theorem dX6_goesOn_89 : decode cX6_goesOn 89 = .ok (.return_, 1) := by decide +kernel
set_option maxHeartbeats 400000 in
set_option maxRecDepth 20000 in
theorem t_X6_goesOn (l : Launch) (ad : Nat → Nat) (D : va_G) (cs : Nat → ClassId) (h : Nat → Nat) (σ : Nat → Nat → Int32) (pre post : va_W) (n : Nat) (hN : σ 0 0 = nI n) (hn : n ≤ 8) : CTv l yX6_goesOn cX6_goesOn 2 ({ frames := 5, cells := 0, slots := 0, locals := 114 }) ad D (tysW cs) (pre ++ (wM cs h σ ++ post)) [.ref (h 0)] (pre ++ (wM cs h (su σ 0 (dayF n (σ 0))) ++ post)) := by
  refine CTv.of (lv0 := [(0, .ref (h 0))]) (by decide) rfl (Nat.le_of_ble_eq_true rfl) (fun p e s m args below meth c A C hr hlk => ?_)
  have C : Cx p s m args c cX6_goesOn 2 RX6 ad D (tysW cs) A := C
  refine r_iconst (pc := 0) C 0 dX6_goesOn_0 (by decide) ?_
  refine r_istore_n (pc := 1) C [(1, .int 0), (0, .ref (h 0))] dX6_goesOn_1 rfl (by decide) rfl ?_
  refine r_pick (lv' := [(0, .ref (h 0)), (1, .int 0)]) [1, 0] rfl ?_
  refine r_blk (blk' := wM cs h (su σ 0 (payN n (σ 0) 0))) (rfl) ?_
  refine r_loop (blkf := fun i => wM cs h (su σ 0 (payN n (σ 0) i))) (lvf := fun i => [(0, .ref (h 0)), (1, .int (nI i))]) (fun i => i = 0 ∨ 1 < n) n 0 (by omega) (by omega) (fun i h_i hx ih => ?_)
  show VX p l e _ s m args below meth c _ D A 2 pre (wM cs h (su σ 0 (payN n (σ 0) i))) post 2 [(0, .ref (h 0)), (1, .int (nI i))] []
  refine r_iload_n (pc := 2) C 1 dX6_goesOn_2 rfl rfl ?_
  refine r_aload_n (pc := 3) C 0 dX6_goesOn_3 rfl rfl ?_
  refine mg_s (pc := 4) C fl_RX6_7 dX6_goesOn_4 ?_
  refine r_iconst (pc := 7) C 0 dX6_goesOn_7 (by decide) ?_
  refine al_s (pc := 8) C 0 (rfl) (by omega) dX6_goesOn_8 (payN n (σ 0) i 0) (congrFun (su_at) _) ?_
  refine r_eqi (y := nI n) ((payN_0 hN)) ?_
  refine r_icmp_ge (pc := 9) C 33 dX6_goesOn_9 (by decide) (fun c_1 => ?_) (fun c_1 => ?_)
  · skip
    have c_1 := nIc_ge_t (a := i) (b := n) (by omega) (by omega) c_1
    obtain rfl : n = i := by omega
    refine r_blk (blk' := wM cs h (su σ 0 (payA n (σ 0)))) (by rw [show (payA n (σ 0) : Nat → Int32) = payN n (σ 0) n from Eq.symm (payA_of (by omega))] <;> rfl) ?_
    refine r_iconst (pc := 33) C 0 dX6_goesOn_33 (by decide) ?_
    refine r_istore_n (pc := 34) C [(1, .int 0), (0, .ref (h 0))] dX6_goesOn_34 rfl (by decide) rfl ?_
    refine r_pick (lv' := [(0, .ref (h 0)), (1, .int 0)]) [1, 0] rfl ?_
    refine r_blk (blk' := wM cs h (su σ 0 (frayN (payA n (σ 0)) 0))) (rfl) ?_
    refine r_loop (blkf := fun t => wM cs h (su σ 0 (frayN (payA n (σ 0)) t))) (lvf := fun t => [(0, .ref (h 0)), (1, .int (nI t))]) (fun t => True) n 0 (by omega) (trivial) (fun t h_t _ ih => ?_)
    show VX p l e _ s m args below meth c _ D A 2 pre (wM cs h (su σ 0 (frayN (payA n (σ 0)) t))) post 35 [(0, .ref (h 0)), (1, .int (nI t))] []
    refine r_iload_n (pc := 35) C 1 dX6_goesOn_35 rfl rfl ?_
    refine r_aload_n (pc := 36) C 0 dX6_goesOn_36 rfl rfl ?_
    refine mg_s (pc := 37) C fl_RX6_7 dX6_goesOn_37 ?_
    refine r_iconst (pc := 40) C 0 dX6_goesOn_40 (by decide) ?_
    refine al_s (pc := 41) C 0 (rfl) (by omega) dX6_goesOn_41 (frayN (payA n (σ 0)) t 0) (congrFun (su_at) _) ?_
    refine r_eqi (y := nI n) ((frayN_0 (payA_0 hN))) ?_
    refine r_icmp_ge (pc := 42) C 79 dX6_goesOn_42 (by decide) (fun c_2 => ?_) (fun c_2 => ?_)
    · skip
      have c_2 := nIc_ge_t (a := t) (b := n) (by omega) (by omega) c_2
      obtain rfl : n = t := by omega
      refine r_aload_n (pc := 79) C 0 dX6_goesOn_79 rfl rfl ?_
      refine mg_s (pc := 80) C fl_RX6_7 dX6_goesOn_80 ?_
      refine r_iconst (pc := 83) C 1 dX6_goesOn_83 (by decide) ?_
      refine r_dup2 (pc := 84) C dX6_goesOn_84 rfl rfl ?_
      refine al_s (pc := 85) C 1 (rfl) (by omega) dX6_goesOn_85 (frayN (payA n (σ 0)) n 1) (congrFun (su_at) _) ?_
      refine r_iconst (pc := 86) C 1 dX6_goesOn_86 (by decide) ?_
      refine r_iadd (pc := 87) C dX6_goesOn_87 ?_
      refine as_s (pc := 88) C 1 (rfl) (by omega) dX6_goesOn_88 (frayN (payA n (σ 0)) n) (su_at) ?_
      refine r_blk (blk' := wM cs h (su σ 0 (upd (frayN (payA n (σ 0)) n) 1 ((frayN (payA n (σ 0)) n 1) + 1)))) (congrArg (wM cs h) (by rw [su_su])) ?_
      exact r_vret (pc := 89) C hr hlk dX6_goesOn_89 rfl
    · skip
      have c_2 := nIc_ge_f (a := t) (b := n) (by omega) (by omega) c_2
      refine r_aload_n (pc := 45) C 0 dX6_goesOn_45 rfl rfl ?_
      refine mg_s (pc := 46) C fl_RX6_7 dX6_goesOn_46 ?_
      refine r_bipush (pc := 49) C 8 dX6_goesOn_49 (by decide) ?_
      refine r_iconst (pc := 51) C 5 dX6_goesOn_51 (by decide) ?_
      refine r_iload_n (pc := 52) C 1 dX6_goesOn_52 rfl rfl ?_
      refine r_imul (pc := 53) C dX6_goesOn_53 ?_
      refine r_eqi (y := nI (5 * t)) (pk_mul 5 t) ?_
      refine r_iadd (pc := 54) C dX6_goesOn_54 ?_
      refine r_eqi (y := nI (8 + 5 * t)) (nI_add 8 (5 * t)) ?_
      refine r_iconst (pc := 55) C 3 dX6_goesOn_55 (by decide) ?_
      refine r_iadd (pc := 56) C dX6_goesOn_56 ?_
      refine r_eqi (y := nI (8 + 5 * t + 3)) (nI_add (8 + 5 * t) 3) ?_
      refine r_aload_n (pc := 57) C 0 dX6_goesOn_57 rfl rfl ?_
      refine r_iload_n (pc := 58) C 1 dX6_goesOn_58 rfl rfl ?_
      refine r_iconst (pc := 59) C 3 dX6_goesOn_59 (by decide) ?_
      refine rc_Vi (pc := 60) C (t_X6_its' l ad D cs h (su σ 0 (frayN (payA n (σ 0)) t)) pre post (frayN (payA n (σ 0)) t) (su_at) t 3 (by omega) (by omega)) mv_X6_its ml_RX6_156 rfl ⟨Nat.le_of_ble_eq_true rfl, Nat.le_of_ble_eq_true rfl⟩ ⟨rfl, rfl⟩ (q0 := 0) rfl rfl rfl rfl rfl rfl (Nat.le_of_ble_eq_true rfl) dX6_goesOn_60 ?_
      refine r_aload_n (pc := 63) C 0 dX6_goesOn_63 rfl rfl ?_
      refine r_iload_n (pc := 64) C 1 dX6_goesOn_64 rfl rfl ?_
      refine rc_Vi (pc := 65) C (t_X6_frays' l ad D cs h (su σ 0 (frayN (payA n (σ 0)) t)) pre post (frayN (payA n (σ 0)) t) (su_at) n t hn (by omega)) mv_X6_frays ml_RX6_171 rfl ⟨Nat.le_of_ble_eq_true rfl, Nat.le_of_ble_eq_true rfl⟩ ⟨rfl, rfl⟩ (q0 := 0) rfl rfl rfl rfl rfl rfl (Nat.le_of_ble_eq_true rfl) dX6_goesOn_65 ?_
      refine r_isub (pc := 68) C dX6_goesOn_68 ?_
      refine rc_Si (pc := 69) C (t_X6_within l ad D (tysW cs) (wM cs h (su σ 0 (frayN (payA n (σ 0)) t))) pre post  ((frayN (payA n (σ 0)) t (8 + 5 * t + 3)) - (fraysF (frayN (payA n (σ 0)) t) t)) ) ms_X6_within ml_RX6_193 rfl ⟨Nat.le_of_ble_eq_true rfl, Nat.le_of_ble_eq_true rfl⟩ ⟨rfl, rfl⟩ rfl rfl rfl (Nat.le_of_ble_eq_true rfl) dX6_goesOn_69 ?_
      refine as_s (pc := 72) C (8 + 5 * t + 3) (rfl) (by omega) dX6_goesOn_72 (frayN (payA n (σ 0)) t) (su_at) ?_
      refine r_blk (blk' := wM cs h (su σ 0 (upd (frayN (payA n (σ 0)) t) (8 + 5 * t + 3) (heldI ((frayN (payA n (σ 0)) t (8 + 5 * t + 3)) - (fraysF (frayN (payA n (σ 0)) t) t)))))) (congrArg (wM cs h) (by rw [su_su])) ?_
      refine r_iinc (pc := 73) C (nI (t + 1)) 1 [(1, .int (nI (t + 1))), (0, .ref (h 0))] dX6_goesOn_73 rfl (nI_1 _) (by decide) rfl ?_
      refine r_goto (pc := 76) C 35 dX6_goesOn_76 (by decide) ?_
      refine r_pick (lv' := [(0, .ref (h 0)), (1, .int (nI (t + 1)))]) [1, 0] rfl ?_
      refine r_blk (blk' := wM cs h (su σ 0 (frayN (payA n (σ 0)) (t + 1)))) (rfl) ?_
      exact ih (by omega) (trivial)
  · skip
    have c_1 := nIc_ge_f (a := i) (b := n) (by omega) (by omega) c_1
    refine r_aload_n (pc := 12) C 0 dX6_goesOn_12 rfl rfl ?_
    refine mg_s (pc := 13) C fl_RX6_7 dX6_goesOn_13 ?_
    refine r_iconst (pc := 16) C 0 dX6_goesOn_16 (by decide) ?_
    refine al_s (pc := 17) C 0 (rfl) (by omega) dX6_goesOn_17 (payN n (σ 0) i 0) (congrFun (su_at) _) ?_
    refine r_eqi (y := nI n) ((payN_0 hN)) ?_
    refine r_iconst (pc := 18) C 1 dX6_goesOn_18 (by decide) ?_
    refine r_icmp_le (pc := 19) C 33 dX6_goesOn_19 (by decide) (fun c_3 => ?_) (fun c_3 => ?_)
    · skip
      have c_3 := nIc_le_t (a := n) (b := 1) (by omega) (by omega) c_3
      obtain rfl : i = 0 := by omega
      refine r_blk (blk' := wM cs h (su σ 0 (payA n (σ 0)))) (by rw [show (payA n (σ 0) : Nat → Int32) = payN n (σ 0) 0 from Eq.symm (payA_of1 (by omega))] <;> rfl) ?_
      refine r_iconst (pc := 33) C 0 dX6_goesOn_33 (by decide) ?_
      refine r_istore_n (pc := 34) C [(1, .int 0), (0, .ref (h 0))] dX6_goesOn_34 rfl (by decide) rfl ?_
      refine r_pick (lv' := [(0, .ref (h 0)), (1, .int 0)]) [1, 0] rfl ?_
      refine r_blk (blk' := wM cs h (su σ 0 (frayN (payA n (σ 0)) 0))) (rfl) ?_
      refine r_loop (blkf := fun t => wM cs h (su σ 0 (frayN (payA n (σ 0)) t))) (lvf := fun t => [(0, .ref (h 0)), (1, .int (nI t))]) (fun t => True) n 0 (by omega) (trivial) (fun t h_t _ ih => ?_)
      show VX p l e _ s m args below meth c _ D A 2 pre (wM cs h (su σ 0 (frayN (payA n (σ 0)) t))) post 35 [(0, .ref (h 0)), (1, .int (nI t))] []
      refine r_iload_n (pc := 35) C 1 dX6_goesOn_35 rfl rfl ?_
      refine r_aload_n (pc := 36) C 0 dX6_goesOn_36 rfl rfl ?_
      refine mg_s (pc := 37) C fl_RX6_7 dX6_goesOn_37 ?_
      refine r_iconst (pc := 40) C 0 dX6_goesOn_40 (by decide) ?_
      refine al_s (pc := 41) C 0 (rfl) (by omega) dX6_goesOn_41 (frayN (payA n (σ 0)) t 0) (congrFun (su_at) _) ?_
      refine r_eqi (y := nI n) ((frayN_0 (payA_0 hN))) ?_
      refine r_icmp_ge (pc := 42) C 79 dX6_goesOn_42 (by decide) (fun c_4 => ?_) (fun c_4 => ?_)
      · skip
        have c_4 := nIc_ge_t (a := t) (b := n) (by omega) (by omega) c_4
        obtain rfl : n = t := by omega
        refine r_aload_n (pc := 79) C 0 dX6_goesOn_79 rfl rfl ?_
        refine mg_s (pc := 80) C fl_RX6_7 dX6_goesOn_80 ?_
        refine r_iconst (pc := 83) C 1 dX6_goesOn_83 (by decide) ?_
        refine r_dup2 (pc := 84) C dX6_goesOn_84 rfl rfl ?_
        refine al_s (pc := 85) C 1 (rfl) (by omega) dX6_goesOn_85 (frayN (payA n (σ 0)) n 1) (congrFun (su_at) _) ?_
        refine r_iconst (pc := 86) C 1 dX6_goesOn_86 (by decide) ?_
        refine r_iadd (pc := 87) C dX6_goesOn_87 ?_
        refine as_s (pc := 88) C 1 (rfl) (by omega) dX6_goesOn_88 (frayN (payA n (σ 0)) n) (su_at) ?_
        refine r_blk (blk' := wM cs h (su σ 0 (upd (frayN (payA n (σ 0)) n) 1 ((frayN (payA n (σ 0)) n 1) + 1)))) (congrArg (wM cs h) (by rw [su_su])) ?_
        exact r_vret (pc := 89) C hr hlk dX6_goesOn_89 rfl
      · skip
        have c_4 := nIc_ge_f (a := t) (b := n) (by omega) (by omega) c_4
        refine r_aload_n (pc := 45) C 0 dX6_goesOn_45 rfl rfl ?_
        refine mg_s (pc := 46) C fl_RX6_7 dX6_goesOn_46 ?_
        refine r_bipush (pc := 49) C 8 dX6_goesOn_49 (by decide) ?_
        refine r_iconst (pc := 51) C 5 dX6_goesOn_51 (by decide) ?_
        refine r_iload_n (pc := 52) C 1 dX6_goesOn_52 rfl rfl ?_
        refine r_imul (pc := 53) C dX6_goesOn_53 ?_
        refine r_eqi (y := nI (5 * t)) (pk_mul 5 t) ?_
        refine r_iadd (pc := 54) C dX6_goesOn_54 ?_
        refine r_eqi (y := nI (8 + 5 * t)) (nI_add 8 (5 * t)) ?_
        refine r_iconst (pc := 55) C 3 dX6_goesOn_55 (by decide) ?_
        refine r_iadd (pc := 56) C dX6_goesOn_56 ?_
        refine r_eqi (y := nI (8 + 5 * t + 3)) (nI_add (8 + 5 * t) 3) ?_
        refine r_aload_n (pc := 57) C 0 dX6_goesOn_57 rfl rfl ?_
        refine r_iload_n (pc := 58) C 1 dX6_goesOn_58 rfl rfl ?_
        refine r_iconst (pc := 59) C 3 dX6_goesOn_59 (by decide) ?_
        refine rc_Vi (pc := 60) C (t_X6_its' l ad D cs h (su σ 0 (frayN (payA n (σ 0)) t)) pre post (frayN (payA n (σ 0)) t) (su_at) t 3 (by omega) (by omega)) mv_X6_its ml_RX6_156 rfl ⟨Nat.le_of_ble_eq_true rfl, Nat.le_of_ble_eq_true rfl⟩ ⟨rfl, rfl⟩ (q0 := 0) rfl rfl rfl rfl rfl rfl (Nat.le_of_ble_eq_true rfl) dX6_goesOn_60 ?_
        refine r_aload_n (pc := 63) C 0 dX6_goesOn_63 rfl rfl ?_
        refine r_iload_n (pc := 64) C 1 dX6_goesOn_64 rfl rfl ?_
        refine rc_Vi (pc := 65) C (t_X6_frays' l ad D cs h (su σ 0 (frayN (payA n (σ 0)) t)) pre post (frayN (payA n (σ 0)) t) (su_at) n t hn (by omega)) mv_X6_frays ml_RX6_171 rfl ⟨Nat.le_of_ble_eq_true rfl, Nat.le_of_ble_eq_true rfl⟩ ⟨rfl, rfl⟩ (q0 := 0) rfl rfl rfl rfl rfl rfl (Nat.le_of_ble_eq_true rfl) dX6_goesOn_65 ?_
        refine r_isub (pc := 68) C dX6_goesOn_68 ?_
        refine rc_Si (pc := 69) C (t_X6_within l ad D (tysW cs) (wM cs h (su σ 0 (frayN (payA n (σ 0)) t))) pre post  ((frayN (payA n (σ 0)) t (8 + 5 * t + 3)) - (fraysF (frayN (payA n (σ 0)) t) t)) ) ms_X6_within ml_RX6_193 rfl ⟨Nat.le_of_ble_eq_true rfl, Nat.le_of_ble_eq_true rfl⟩ ⟨rfl, rfl⟩ rfl rfl rfl (Nat.le_of_ble_eq_true rfl) dX6_goesOn_69 ?_
        refine as_s (pc := 72) C (8 + 5 * t + 3) (rfl) (by omega) dX6_goesOn_72 (frayN (payA n (σ 0)) t) (su_at) ?_
        refine r_blk (blk' := wM cs h (su σ 0 (upd (frayN (payA n (σ 0)) t) (8 + 5 * t + 3) (heldI ((frayN (payA n (σ 0)) t (8 + 5 * t + 3)) - (fraysF (frayN (payA n (σ 0)) t) t)))))) (congrArg (wM cs h) (by rw [su_su])) ?_
        refine r_iinc (pc := 73) C (nI (t + 1)) 1 [(1, .int (nI (t + 1))), (0, .ref (h 0))] dX6_goesOn_73 rfl (nI_1 _) (by decide) rfl ?_
        refine r_goto (pc := 76) C 35 dX6_goesOn_76 (by decide) ?_
        refine r_pick (lv' := [(0, .ref (h 0)), (1, .int (nI (t + 1)))]) [1, 0] rfl ?_
        refine r_blk (blk' := wM cs h (su σ 0 (frayN (payA n (σ 0)) (t + 1)))) (rfl) ?_
        exact ih (by omega) (trivial)
    · skip
      have c_3 := nIc_le_f (a := n) (b := 1) (by omega) (by omega) c_3
      refine r_aload_n (pc := 22) C 0 dX6_goesOn_22 rfl rfl ?_
      refine r_iload_n (pc := 23) C 1 dX6_goesOn_23 rfl rfl ?_
      refine rc_Vv (pc := 24) C (t_X6_pays' l ad D cs h (su σ 0 (payN n (σ 0) i)) pre post (payN n (σ 0) i) (su_at) n i (payN_0 hN) hn (by omega)) mv_X6_pays ml_RX6_190 rfl ⟨Nat.le_of_ble_eq_true rfl, Nat.le_of_ble_eq_true rfl⟩ ⟨rfl, rfl⟩ (q0 := 0) rfl rfl rfl rfl rfl rfl (Nat.le_of_ble_eq_true rfl) dX6_goesOn_24 ?_
      refine r_blk (blk' := wM cs h (su σ 0 (payF n (payN n (σ 0) i) i))) (congrArg (wM cs h) (by rw [su_su (k := 0)])) ?_
      have f_5 : payF n (payN n (σ 0) i) i 0 = nI n := payF_0 (payN_0 hN)
      refine r_iinc (pc := 27) C (nI (i + 1)) 1 [(1, .int (nI (i + 1))), (0, .ref (h 0))] dX6_goesOn_27 rfl (nI_1 _) (by decide) rfl ?_
      refine r_goto (pc := 30) C 2 dX6_goesOn_30 (by decide) ?_
      refine r_pick (lv' := [(0, .ref (h 0)), (1, .int (nI (i + 1)))]) [1, 0] rfl ?_
      refine r_blk (blk' := wM cs h (su σ 0 (payN n (σ 0) (i + 1)))) (rfl) ?_
      exact ih (by omega) (by omega)
theorem t_X6_goesOn' (l : Launch) (ad : Nat → Nat) (D : va_G) (cs : Nat → ClassId) (h : Nat → Nat) (σ : Nat → Nat → Int32) (pre post : va_W) (f0_ : Nat → Int32) (e0_ : σ 0 = f0_) (n : Nat) (hN : f0_ 0 = nI n) (hn : n ≤ 8) : CTv l yX6_goesOn cX6_goesOn 2 ({ frames := 5, cells := 0, slots := 0, locals := 114 }) ad D (tysW cs) (pre ++ (wM cs h σ ++ post)) [.ref (h 0)] (pre ++ (wM cs h (su σ 0 (dayF n f0_)) ++ post)) := by
  subst e0_
  exact t_X6_goesOn l ad D cs h σ pre post n hN hn
theorem dX6_goes_0 : decode cX6_goes 0 = .ok (.iconst 0, 1) := by decide +kernel
theorem dX6_goes_1 : decode cX6_goes 1 = .ok (.istore_n 2, 1) := by decide +kernel
theorem dX6_goes_2 : decode cX6_goes 2 = .ok (.iload_n 2, 1) := by decide +kernel
theorem dX6_goes_3 : decode cX6_goes 3 = .ok (.iload_n 1, 1) := by decide +kernel
theorem dX6_goes_4 : decode cX6_goes 4 = .ok (.if_icmp .ge 13, 3) := by decide +kernel
theorem dX6_goes_7 : decode cX6_goes 7 = .ok (.aload_n 0, 1) := by decide +kernel
theorem dX6_goes_8 : decode cX6_goes 8 = .ok (.invokevirtual 196, 3) := by decide +kernel
theorem dX6_goes_11 : decode cX6_goes 11 = .ok (.iinc 2 1, 3) := by decide +kernel
theorem dX6_goes_14 : decode cX6_goes 14 = .ok (.goto (-12), 3) := by decide +kernel
theorem dX6_goes_17 : decode cX6_goes 17 = .ok (.return_, 1) := by decide +kernel
set_option maxHeartbeats 400000 in
set_option maxRecDepth 20000 in
theorem t_X6_goes (l : Launch) (ad : Nat → Nat) (D : va_G) (cs : Nat → ClassId) (h : Nat → Nat) (σ : Nat → Nat → Int32) (pre post : va_W) (n : Nat) (k : Nat) (hN : σ 0 0 = nI n) (hn : n ≤ 8) (hk : k ≤ 60) : CTv l yX6_goes cX6_goes 3 ({ frames := 6, cells := 0, slots := 0, locals := 135 }) ad D (tysW cs) (pre ++ (wM cs h σ ++ post)) [.ref (h 0), .int (nI k)] (pre ++ (wM cs h (su σ 0 (daysF n (σ 0) k)) ++ post)) := by
  refine CTv.of (lv0 := [(0, .ref (h 0)), (1, .int (nI k))]) (by decide) rfl (Nat.le_of_ble_eq_true rfl) (fun p e s m args below meth c A C hr hlk => ?_)
  have C : Cx p s m args c cX6_goes 3 RX6 ad D (tysW cs) A := C
  refine r_iconst (pc := 0) C 0 dX6_goes_0 (by decide) ?_
  refine r_istore_n (pc := 1) C [(2, .int 0), (0, .ref (h 0)), (1, .int (nI k))] dX6_goes_1 rfl (by decide) rfl ?_
  refine r_pick (lv' := [(0, .ref (h 0)), (1, .int (nI k)), (2, .int 0)]) [1, 2, 0] rfl ?_
  refine r_blk (blk' := wM cs h (su σ 0 (daysF n (σ 0) 0))) (rfl) ?_
  refine r_loop (blkf := fun i => wM cs h (su σ 0 (daysF n (σ 0) i))) (lvf := fun i => [(0, .ref (h 0)), (1, .int (nI k)), (2, .int (nI i))]) (fun i => True) k 0 (by omega) (trivial) (fun i h_i _ ih => ?_)
  show VX p l e _ s m args below meth c _ D A 3 pre (wM cs h (su σ 0 (daysF n (σ 0) i))) post 2 [(0, .ref (h 0)), (1, .int (nI k)), (2, .int (nI i))] []
  refine r_iload_n (pc := 2) C 2 dX6_goes_2 rfl rfl ?_
  refine r_iload_n (pc := 3) C 1 dX6_goes_3 rfl rfl ?_
  refine r_icmp_ge (pc := 4) C 17 dX6_goes_4 (by decide) (fun c_1 => ?_) (fun c_1 => ?_)
  · skip
    have c_1 := nIc_ge_t (a := i) (b := k) (by omega) (by omega) c_1
    obtain rfl : k = i := by omega
    exact r_vret (pc := 17) C hr hlk dX6_goes_17 rfl
  · skip
    have c_1 := nIc_ge_f (a := i) (b := k) (by omega) (by omega) c_1
    refine r_aload_n (pc := 7) C 0 dX6_goes_7 rfl rfl ?_
    refine rc_Vv (pc := 8) C (t_X6_goesOn' l ad D cs h (su σ 0 (daysF n (σ 0) i)) pre post (daysF n (σ 0) i) (su_at) n (daysF_0 hN) hn) mv_X6_goesOn ml_RX6_196 rfl ⟨Nat.le_of_ble_eq_true rfl, Nat.le_of_ble_eq_true rfl⟩ ⟨rfl, rfl⟩ (q0 := 0) rfl rfl rfl rfl rfl rfl (Nat.le_of_ble_eq_true rfl) dX6_goes_8 ?_
    refine r_blk (blk' := wM cs h (su σ 0 (dayF n (daysF n (σ 0) i)))) (congrArg (wM cs h) (by rw [su_su (k := 0)])) ?_
    have f_2 : dayF n (daysF n (σ 0) i) 0 = nI n := dayF_0 (daysF_0 hN)
    refine r_iinc (pc := 11) C (nI (i + 1)) 2 [(2, .int (nI (i + 1))), (0, .ref (h 0)), (1, .int (nI k))] dX6_goes_11 rfl (nI_1 _) (by decide) rfl ?_
    refine r_goto (pc := 14) C 2 dX6_goes_14 (by decide) ?_
    refine r_pick (lv' := [(0, .ref (h 0)), (1, .int (nI k)), (2, .int (nI (i + 1)))]) [1, 2, 0] rfl ?_
    refine r_blk (blk' := wM cs h (su σ 0 (daysF n (σ 0) (i + 1)))) (rfl) ?_
    exact ih (by omega) (trivial)
theorem t_X6_goes' (l : Launch) (ad : Nat → Nat) (D : va_G) (cs : Nat → ClassId) (h : Nat → Nat) (σ : Nat → Nat → Int32) (pre post : va_W) (f0_ : Nat → Int32) (e0_ : σ 0 = f0_) (n : Nat) (k : Nat) (hN : f0_ 0 = nI n) (hn : n ≤ 8) (hk : k ≤ 60) : CTv l yX6_goes cX6_goes 3 ({ frames := 6, cells := 0, slots := 0, locals := 135 }) ad D (tysW cs) (pre ++ (wM cs h σ ++ post)) [.ref (h 0), .int (nI k)] (pre ++ (wM cs h (su σ 0 (daysF n f0_ k)) ++ post)) := by
  subst e0_
  exact t_X6_goes l ad D cs h σ pre post n k hN hn hk
