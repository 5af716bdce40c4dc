theorem dX6_isRow_0 : decode cX6_isRow 0 = .ok (.iload_n 1, 1) := by decide +kernel
theorem dX6_isRow_1 : decode cX6_isRow 1 = .ok (.i2l, 1) := by decide +kernel
theorem dX6_isRow_2 : decode cX6_isRow 2 = .ok (.lconst 0, 1) := by decide +kernel
theorem dX6_isRow_3 : decode cX6_isRow 3 = .ok (.aload_n 0, 1) := by decide +kernel
theorem dX6_isRow_4 : decode cX6_isRow 4 = .ok (.getfield 141, 3) := by decide +kernel
theorem dX6_isRow_7 : decode cX6_isRow 7 = .ok (.iconst 1, 1) := by decide +kernel
theorem dX6_isRow_8 : decode cX6_isRow 8 = .ok (.isub, 1) := by decide +kernel
theorem dX6_isRow_9 : decode cX6_isRow 9 = .ok (.i2l, 1) := by decide +kernel
theorem dX6_isRow_10 : decode cX6_isRow 10 = .ok (.invokestatic 57, 3) := by decide +kernel
theorem dX6_isRow_13 : decode cX6_isRow 13 = .ok (.ifCond .eq 19, 3) := by decide +kernel
theorem dX6_isRow_16 : decode cX6_isRow 16 = .ok (.iload_n 2, 1) := by decide +kernel
theorem dX6_isRow_17 : decode cX6_isRow 17 = .ok (.i2l, 1) := by decide +kernel
theorem dX6_isRow_18 : decode cX6_isRow 18 = .ok (.lconst 0, 1) := by decide +kernel
theorem dX6_isRow_19 : decode cX6_isRow 19 = .ok (.ldc2_w 266, 3) := by decide +kernel
theorem dX6_isRow_22 : decode cX6_isRow 22 = .ok (.invokestatic 57, 3) := by decide +kernel
theorem dX6_isRow_25 : decode cX6_isRow 25 = .ok (.ifCond .eq 7, 3) := by decide +kernel
theorem dX6_isRow_28 : decode cX6_isRow 28 = .ok (.iconst 1, 1) := by decide +kernel
theorem dX6_isRow_29 : decode cX6_isRow 29 = .ok (.goto 4, 3) := by decide +kernel
theorem dX6_isRow_32 : decode cX6_isRow 32 = .ok (.iconst 0, 1) := by decide +kernel
theorem dX6_isRow_33 : decode cX6_isRow 33 = .ok (.ireturn, 1) := by decide +kernel
set_option maxHeartbeats 400000 in
set_option maxRecDepth 20000 in
theorem t_X6_isRow (l : Launch) (ad : Nat → Nat) (D : va_G) (cs : Nat → ClassId) (h : Nat → Nat) (σ : Nat → Nat → Int32) (pre post : va_W) (n y : Nat) (i w : Int32) (hN : σ 0 0 = nI n) (hn : n ≤ 8) (hY : σ 14 0 = nI y) (hy0 : y ≤ 10) : CTi l yX6_isRow cX6_isRow 3 .boolean ({ frames := 1, cells := 0, slots := 0, locals := 25 }) ad D (tysW cs) (pre ++ (wM cs h σ ++ post)) [.ref (h 0), .int i, .int w] (bI ((inB i 0 (nI y - 1) && inB w 0 2) = true)) (pre ++ (wM cs h σ ++ post)) := by
  refine CTi.of (lv0 := [(0, .ref (h 0)), (1, .int i), (2, .int w)]) (by decide) rfl (Nat.le_of_ble_eq_true rfl) (fun p e s m args below meth c A C hr hlk => ?_)
  have C : Cx p s m args c cX6_isRow 3 RX6 ad D (tysW cs) A := C
  refine r_iload_n (pc := 0) C 1 dX6_isRow_0 rfl rfl ?_
  refine r_i2l (pc := 1) C dX6_isRow_1 ?_
  refine r_lconst (pc := 2) C 0 dX6_isRow_2 (by decide) ?_
  refine r_aload_n (pc := 3) C 0 dX6_isRow_3 rfl rfl ?_
  refine mg_rowN (pc := 4) C fl_RX6_141 dX6_isRow_4 (σ 14 0) rfl ?_
  refine r_eqi (y := nI y) (hY) ?_
  refine r_iconst (pc := 7) C 1 dX6_isRow_7 (by decide) ?_
  refine r_isub (pc := 8) C dX6_isRow_8 ?_
  refine r_i2l (pc := 9) C dX6_isRow_9 ?_
  refine rc_Si (pc := 10) C (t_X6_isIn l ad D (tysW cs) (wM cs h σ) pre post  i (0 : Int32) ((nI y) - 1) ) ms_X6_isIn ml_RX6_57 rfl ⟨Nat.le_of_ble_eq_true rfl, Nat.le_of_ble_eq_true rfl⟩ ⟨rfl, rfl⟩ rfl rfl rfl (Nat.le_of_ble_eq_true rfl) dX6_isRow_10 ?_
  refine r_if_eq (pc := 13) C 32 dX6_isRow_13 (by decide) (fun c_1 => ?_) (fun c_1 => ?_)
  · skip
    have c_1 := bI_0.mp c_1
    refine r_iconst (pc := 32) C 0 dX6_isRow_32 (by decide) ?_
    exact r_iret (pc := 33) C hr hlk dX6_isRow_33 rfl (by simp_all [bI]) rfl
  · skip
    have c_1 := bI_n.mp c_1
    refine r_iload_n (pc := 16) C 2 dX6_isRow_16 rfl rfl ?_
    refine r_i2l (pc := 17) C dX6_isRow_17 ?_
    refine r_lconst (pc := 18) C 0 dX6_isRow_18 (by decide) ?_
    refine r_ldc2 (pc := 19) C dX6_isRow_19 cn_RX6_266 ?_
    refine rc_Si (pc := 22) C (t_X6_isIn l ad D (tysW cs) (wM cs h σ) pre post  w (0 : Int32) (2 : Int32) ) ms_X6_isIn ml_RX6_57 rfl ⟨Nat.le_of_ble_eq_true rfl, Nat.le_of_ble_eq_true rfl⟩ ⟨rfl, rfl⟩ rfl rfl rfl (Nat.le_of_ble_eq_true rfl) dX6_isRow_22 ?_
    refine r_if_eq (pc := 25) C 32 dX6_isRow_25 (by decide) (fun c_2 => ?_) (fun c_2 => ?_)
    · skip
      have c_2 := bI_0.mp c_2
      refine r_iconst (pc := 32) C 0 dX6_isRow_32 (by decide) ?_
      exact r_iret (pc := 33) C hr hlk dX6_isRow_33 rfl (by simp_all [bI]) rfl
    · skip
      have c_2 := bI_n.mp c_2
      refine r_iconst (pc := 28) C 1 dX6_isRow_28 (by decide) ?_
      refine r_goto (pc := 29) C 33 dX6_isRow_29 (by decide) ?_
      exact r_iret (pc := 33) C hr hlk dX6_isRow_33 rfl (by simp_all [bI]) rfl
theorem t_X6_isRow' (l : Launch) (ad : Nat → Nat) (D : va_G) (cs : Nat → ClassId) (h : Nat → Nat) (σ : Nat → Nat → Int32) (pre post : va_W) (f0_ : Nat → Int32) (e0_ : σ 0 = f0_) (f14_ : Nat → Int32) (e14_ : σ 14 = f14_) (n y : Nat) (i w : Int32) (hN : f0_ 0 = nI n) (hn : n ≤ 8) (hY : f14_ 0 = nI y) (hy0 : y ≤ 10) : CTi l yX6_isRow cX6_isRow 3 .boolean ({ frames := 1, cells := 0, slots := 0, locals := 25 }) ad D (tysW cs) (pre ++ (wM cs h σ ++ post)) [.ref (h 0), .int i, .int w] (bI ((inB i 0 (nI y - 1) && inB w 0 2) = true)) (pre ++ (wM cs h σ ++ post)) := by
  subst e0_; subst e14_
  exact t_X6_isRow l ad D cs h σ pre post n y i w hN hn hY hy0
theorem dX6_row_0 : decode cX6_row 0 = .ok (.aload_n 0, 1) := by decide +kernel
theorem dX6_row_1 : decode cX6_row 1 = .ok (.iload_n 1, 1) := by decide +kernel
theorem dX6_row_2 : decode cX6_row 2 = .ok (.iload_n 2, 1) := by decide +kernel
theorem dX6_row_3 : decode cX6_row 3 = .ok (.invokevirtual 268, 3) := by decide +kernel
theorem dX6_row_6 : decode cX6_row 6 = .ok (.ifCond .eq 16, 3) := by decide +kernel
theorem dX6_row_9 : decode cX6_row 9 = .ok (.aload_n 0, 1) := by decide +kernel
theorem dX6_row_10 : decode cX6_row 10 = .ok (.getfield 28, 3) := by decide +kernel
theorem dX6_row_13 : decode cX6_row 13 = .ok (.iconst 3, 1) := by decide +kernel
theorem dX6_row_14 : decode cX6_row 14 = .ok (.iload_n 1, 1) := by decide +kernel
theorem dX6_row_15 : decode cX6_row 15 = .ok (.imul, 1) := by decide +kernel
theorem dX6_row_16 : decode cX6_row 16 = .ok (.iload_n 2, 1) := by decide +kernel
theorem dX6_row_17 : decode cX6_row 17 = .ok (.iadd, 1) := by decide +kernel
theorem dX6_row_18 : decode cX6_row 18 = .ok (.iaload, 1) := by decide +kernel
theorem dX6_row_19 : decode cX6_row 19 = .ok (.goto 5, 3) := by decide +kernel
theorem dX6_row_22 : decode cX6_row 22 = .ok (.bipush (-9), 2) := by decide +kernel
theorem dX6_row_24 : decode cX6_row 24 = .ok (.ireturn, 1) := by decide +kernel
set_option maxHeartbeats 400000 in
set_option maxRecDepth 20000 in
theorem t_X6_row (l : Launch) (ad : Nat → Nat) (D : va_G) (cs : Nat → ClassId) (h : Nat → Nat) (σ : Nat → Nat → Int32) (pre post : va_W) (n y : Nat) (i w : Int32) (hN : σ 0 0 = nI n) (hn : n ≤ 8) (hY : σ 14 0 = nI y) (hy0 : y ≤ 10) : CTi l yX6_row cX6_row 3 .int ({ frames := 2, cells := 0, slots := 0, locals := 47 }) ad D (tysW cs) (pre ++ (wM cs h σ ++ post)) [.ref (h 0), .int i, .int w] (gateI (inB i 0 (nI y - 1) && inB w 0 2) (σ 13 (3 * i.toNatClampNeg + w.toNatClampNeg)) (-9)) (pre ++ (wM cs h σ ++ post)) := by
  refine CTi.of (lv0 := [(0, .ref (h 0)), (1, .int i), (2, .int w)]) (by decide) rfl (Nat.le_of_ble_eq_true rfl) (fun p e s m args below meth c A C hr hlk => ?_)
  have C : Cx p s m args c cX6_row 3 RX6 ad D (tysW cs) A := C
  refine r_aload_n (pc := 0) C 0 dX6_row_0 rfl rfl ?_
  refine r_iload_n (pc := 1) C 1 dX6_row_1 rfl rfl ?_
  refine r_iload_n (pc := 2) C 2 dX6_row_2 rfl rfl ?_
  refine rc_Vi (pc := 3) C (t_X6_isRow' l ad D cs h σ pre post (σ 0) (rfl) (σ 14) (rfl) n y i w hN hn hY hy0) mv_X6_isRow ml_RX6_268 rfl ⟨Nat.le_of_ble_eq_true rfl, Nat.le_of_ble_eq_true rfl⟩ ⟨rfl, rfl⟩ (q0 := 0) rfl rfl rfl rfl rfl rfl (Nat.le_of_ble_eq_true rfl) dX6_row_3 ?_
  refine r_if_eq (pc := 6) C 22 dX6_row_6 (by decide) (fun c_1 => ?_) (fun c_1 => ?_)
  · skip
    have c_1 := bI_0.mp c_1
    refine r_bipush (pc := 22) C (-9) dX6_row_22 (by decide) ?_
    exact r_iret (pc := 24) C hr hlk dX6_row_24 rfl (by first | rfl | (simp [gateI, gateF, *]; done) | simp_all [gateI, gateF]) rfl
  · skip
    have c_1 := bI_n.mp c_1
    obtain ⟨a_2, b_2⟩ := (Bool.and_eq_true _ _).mp c_1
    obtain ⟨t, h_t, rfl⟩ := rng_pred y (by omega) a_2
    have e_t : (nI t).toNatClampNeg = t := nI_clamp (by omega)
    obtain ⟨u, l_u, h_u, rfl⟩ := rng_nat 0 2 (by decide) (by decide) b_2
    have e_u : (nI u).toNatClampNeg = u := nI_clamp (by omega)
    refine r_aload_n (pc := 9) C 0 dX6_row_9 rfl rfl ?_
    refine mg_rows (pc := 10) C fl_RX6_28 dX6_row_10 ?_
    refine r_iconst (pc := 13) C 3 dX6_row_13 (by decide) ?_
    refine r_iload_n (pc := 14) C 1 dX6_row_14 rfl rfl ?_
    refine r_imul (pc := 15) C dX6_row_15 ?_
    refine r_eqi (y := nI (3 * t)) (pk_mul 3 t) ?_
    refine r_iload_n (pc := 16) C 2 dX6_row_16 rfl rfl ?_
    refine r_iadd (pc := 17) C dX6_row_17 ?_
    refine r_eqi (y := nI (3 * t + u)) (nI_add (3 * t) u) ?_
    refine al_rows (pc := 18) C (3 * t + u) (rfl) (by omega) dX6_row_18 (σ 13 (3 * t + u)) rfl ?_
    refine r_goto (pc := 19) C 24 dX6_row_19 (by decide) ?_
    exact r_iret (pc := 24) C hr hlk dX6_row_24 rfl (by first | rfl | (simp [gateI, gateF, *]; done) | simp_all [gateI, gateF]) rfl
theorem t_X6_row' (l : Launch) (ad : Nat → Nat) (D : va_G) (cs : Nat → ClassId) (h : Nat → Nat) (σ : Nat → Nat → Int32) (pre post : va_W) (f0_ : Nat → Int32) (e0_ : σ 0 = f0_) (f13_ : Nat → Int32) (e13_ : σ 13 = f13_) (f14_ : Nat → Int32) (e14_ : σ 14 = f14_) (n y : Nat) (i w : Int32) (hN : f0_ 0 = nI n) (hn : n ≤ 8) (hY : f14_ 0 = nI y) (hy0 : y ≤ 10) : CTi l yX6_row cX6_row 3 .int ({ frames := 2, cells := 0, slots := 0, locals := 47 }) ad D (tysW cs) (pre ++ (wM cs h σ ++ post)) [.ref (h 0), .int i, .int w] (gateI (inB i 0 (nI y - 1) && inB w 0 2) (f13_ (3 * i.toNatClampNeg + w.toNatClampNeg)) (-9)) (pre ++ (wM cs h σ ++ post)) := by
  subst e0_; subst e13_; subst e14_
  exact t_X6_row l ad D cs h σ pre post n y i w hN hn hY hy0
theorem dX6_alterRow_0 : decode cX6_alterRow 0 = .ok (.aload_n 0, 1) := by decide +kernel
theorem dX6_alterRow_1 : decode cX6_alterRow 1 = .ok (.iload_n 1, 1) := by decide +kernel
theorem dX6_alterRow_2 : decode cX6_alterRow 2 = .ok (.iload_n 2, 1) := by decide +kernel
theorem dX6_alterRow_3 : decode cX6_alterRow 3 = .ok (.invokevirtual 268, 3) := by decide +kernel
theorem dX6_alterRow_6 : decode cX6_alterRow 6 = .ok (.ifCond .ne 6, 3) := by decide +kernel
theorem dX6_alterRow_9 : decode cX6_alterRow 9 = .ok (.bipush (-9), 2) := by decide +kernel
theorem dX6_alterRow_11 : decode cX6_alterRow 11 = .ok (.ireturn, 1) := by decide +kernel
theorem dX6_alterRow_12 : decode cX6_alterRow 12 = .ok (.aload_n 0, 1) := by decide +kernel
theorem dX6_alterRow_13 : decode cX6_alterRow 13 = .ok (.getfield 28, 3) := by decide +kernel
theorem dX6_alterRow_16 : decode cX6_alterRow 16 = .ok (.iconst 3, 1) := by decide +kernel
theorem dX6_alterRow_17 : decode cX6_alterRow 17 = .ok (.iload_n 1, 1) := by decide +kernel
theorem dX6_alterRow_18 : decode cX6_alterRow 18 = .ok (.imul, 1) := by decide +kernel
theorem dX6_alterRow_19 : decode cX6_alterRow 19 = .ok (.iload_n 2, 1) := by decide +kernel
theorem dX6_alterRow_20 : decode cX6_alterRow 20 = .ok (.iadd, 1) := by decide +kernel
theorem dX6_alterRow_21 : decode cX6_alterRow 21 = .ok (.iaload, 1) := by decide +kernel
theorem dX6_alterRow_22 : decode cX6_alterRow 22 = .ok (.istore 4, 2) := by decide +kernel
theorem dX6_alterRow_24 : decode cX6_alterRow 24 = .ok (.aload_n 0, 1) := by decide +kernel
theorem dX6_alterRow_25 : decode cX6_alterRow 25 = .ok (.getfield 28, 3) := by decide +kernel
theorem dX6_alterRow_28 : decode cX6_alterRow 28 = .ok (.iconst 3, 1) := by decide +kernel
theorem dX6_alterRow_29 : decode cX6_alterRow 29 = .ok (.iload_n 1, 1) := by decide +kernel
theorem dX6_alterRow_30 : decode cX6_alterRow 30 = .ok (.imul, 1) := by decide +kernel
theorem dX6_alterRow_31 : decode cX6_alterRow 31 = .ok (.iload_n 2, 1) := by decide +kernel
theorem dX6_alterRow_32 : decode cX6_alterRow 32 = .ok (.iadd, 1) := by decide +kernel
theorem dX6_alterRow_33 : decode cX6_alterRow 33 = .ok (.iload_n 3, 1) := by decide +kernel
theorem dX6_alterRow_34 : decode cX6_alterRow 34 = .ok (.iastore, 1) := by decide +kernel
theorem dX6_alterRow_35 : decode cX6_alterRow 35 = .ok (.iload 4, 2) := by decide +kernel
theorem dX6_alterRow_37 : decode cX6_alterRow 37 = .ok (.ireturn, 1) := by decide +kernel
set_option maxHeartbeats 400000 in
set_option maxRecDepth 20000 in
theorem t_X6_alterRow (l : Launch) (ad : Nat → Nat) (D : va_G) (cs : Nat → ClassId) (h : Nat → Nat) (σ : Nat → Nat → Int32) (pre post : va_W) (n y : Nat) (i w v : Int32) (hN : σ 0 0 = nI n) (hn : n ≤ 8) (hY : σ 14 0 = nI y) (hy0 : y ≤ 10) : CTi l yX6_alterRow cX6_alterRow 5 .int ({ frames := 2, cells := 0, slots := 0, locals := 47 }) ad D (tysW cs) (pre ++ (wM cs h σ ++ post)) [.ref (h 0), .int i, .int w, .int v] (gateI (inB i 0 (nI y - 1) && inB w 0 2) (σ 13 (3 * i.toNatClampNeg + w.toNatClampNeg)) (-9)) (pre ++ (wM cs h (su σ 13 (gateF (inB i 0 (nI y - 1) && inB w 0 2) (upd (σ 13) (3 * i.toNatClampNeg + w.toNatClampNeg) v) (σ 13))) ++ post)) := by
  refine CTi.of (lv0 := [(0, .ref (h 0)), (1, .int i), (2, .int w), (3, .int v)]) (by decide) rfl (Nat.le_of_ble_eq_true rfl) (fun p e s m args below meth c A C hr hlk => ?_)
  have C : Cx p s m args c cX6_alterRow 5 RX6 ad D (tysW cs) A := C
  refine r_aload_n (pc := 0) C 0 dX6_alterRow_0 rfl rfl ?_
  refine r_iload_n (pc := 1) C 1 dX6_alterRow_1 rfl rfl ?_
  refine r_iload_n (pc := 2) C 2 dX6_alterRow_2 rfl rfl ?_
  refine rc_Vi (pc := 3) C (t_X6_isRow' l ad D cs h σ pre post (σ 0) (rfl) (σ 14) (rfl) n y i w hN hn hY hy0) mv_X6_isRow ml_RX6_268 rfl ⟨Nat.le_of_ble_eq_true rfl, Nat.le_of_ble_eq_true rfl⟩ ⟨rfl, rfl⟩ (q0 := 0) rfl rfl rfl rfl rfl rfl (Nat.le_of_ble_eq_true rfl) dX6_alterRow_3 ?_
  refine r_if_ne (pc := 6) C 12 dX6_alterRow_6 (by decide) (fun c_1 => ?_) (fun c_1 => ?_)
  · skip
    have c_1 := bI_n.mp c_1
    obtain ⟨a_2, b_2⟩ := (Bool.and_eq_true _ _).mp c_1
    obtain ⟨t, h_t, rfl⟩ := rng_pred y (by omega) a_2
    have e_t : (nI t).toNatClampNeg = t := nI_clamp (by omega)
    obtain ⟨u, l_u, h_u, rfl⟩ := rng_nat 0 2 (by decide) (by decide) b_2
    have e_u : (nI u).toNatClampNeg = u := nI_clamp (by omega)
    refine r_aload_n (pc := 12) C 0 dX6_alterRow_12 rfl rfl ?_
    refine mg_rows (pc := 13) C fl_RX6_28 dX6_alterRow_13 ?_
    refine r_iconst (pc := 16) C 3 dX6_alterRow_16 (by decide) ?_
    refine r_iload_n (pc := 17) C 1 dX6_alterRow_17 rfl rfl ?_
    refine r_imul (pc := 18) C dX6_alterRow_18 ?_
    refine r_eqi (y := nI (3 * t)) (pk_mul 3 t) ?_
    refine r_iload_n (pc := 19) C 2 dX6_alterRow_19 rfl rfl ?_
    refine r_iadd (pc := 20) C dX6_alterRow_20 ?_
    refine r_eqi (y := nI (3 * t + u)) (nI_add (3 * t) u) ?_
    refine al_rows (pc := 21) C (3 * t + u) (rfl) (by omega) dX6_alterRow_21 (σ 13 (3 * t + u)) rfl ?_
    refine r_istore (pc := 22) C [(4, .int (σ 13 (3 * t + u))), (0, .ref (h 0)), (1, .int (nI t)), (2, .int (nI u)), (3, .int v)] dX6_alterRow_22 (by decide) rfl ?_
    refine r_aload_n (pc := 24) C 1 dX6_alterRow_24 rfl rfl ?_
    refine mg_rows (pc := 25) C fl_RX6_28 dX6_alterRow_25 ?_
    refine r_iconst (pc := 28) C 3 dX6_alterRow_28 (by decide) ?_
    refine r_iload_n (pc := 29) C 2 dX6_alterRow_29 rfl rfl ?_
    refine r_imul (pc := 30) C dX6_alterRow_30 ?_
    refine r_eqi (y := nI (3 * t)) (pk_mul 3 t) ?_
    refine r_iload_n (pc := 31) C 3 dX6_alterRow_31 rfl rfl ?_
    refine r_iadd (pc := 32) C dX6_alterRow_32 ?_
    refine r_eqi (y := nI (3 * t + u)) (nI_add (3 * t) u) ?_
    refine r_iload_n (pc := 33) C 4 dX6_alterRow_33 rfl rfl ?_
    refine as_rows (pc := 34) C (3 * t + u) (rfl) (by omega) dX6_alterRow_34 (σ 13) (rfl) ?_
    refine r_iload (pc := 35) C 0 dX6_alterRow_35 rfl ?_
    exact r_iret (pc := 37) C hr hlk dX6_alterRow_37 rfl (by first | rfl | (simp [gateI, gateF, *]; done) | simp_all [gateI, gateF]) (by rw [show (gateF (inB (nI t) 0 (nI y - 1) && inB (nI u) 0 2) (upd (σ 13) (3 * (nI t).toNatClampNeg + (nI u).toNatClampNeg) v) (σ 13) : Nat → Int32) = upd (σ 13) (3 * t + u) v from (by first | rfl | (simp [gateI, gateF, *]; done) | simp_all [gateI, gateF])] <;> rfl)
  · skip
    have c_1 := bI_0.mp c_1
    refine r_bipush (pc := 9) C (-9) dX6_alterRow_9 (by decide) ?_
    exact r_iret (pc := 11) C hr hlk dX6_alterRow_11 rfl (by first | rfl | (simp [gateI, gateF, *]; done) | simp_all [gateI, gateF]) (by rw [show (gateF (inB i 0 (nI y - 1) && inB w 0 2) (upd (σ 13) (3 * i.toNatClampNeg + w.toNatClampNeg) v) (σ 13) : Nat → Int32) = σ 13 from (by first | rfl | (simp [gateI, gateF, *]; done) | simp_all [gateI, gateF])] <;> rfl)
theorem t_X6_alterRow' (l : Launch) (ad : Nat → Nat) (D : va_G) (cs : Nat → ClassId) (h : Nat → Nat) (σ : Nat → Nat → Int32) (pre post : va_W) (f0_ : Nat → Int32) (e0_ : σ 0 = f0_) (f13_ : Nat → Int32) (e13_ : σ 13 = f13_) (f14_ : Nat → Int32) (e14_ : σ 14 = f14_) (n y : Nat) (i w v : Int32) (hN : f0_ 0 = nI n) (hn : n ≤ 8) (hY : f14_ 0 = nI y) (hy0 : y ≤ 10) : CTi l yX6_alterRow cX6_alterRow 5 .int ({ frames := 2, cells := 0, slots := 0, locals := 47 }) ad D (tysW cs) (pre ++ (wM cs h σ ++ post)) [.ref (h 0), .int i, .int w, .int v] (gateI (inB i 0 (nI y - 1) && inB w 0 2) (f13_ (3 * i.toNatClampNeg + w.toNatClampNeg)) (-9)) (pre ++ (wM cs h (su σ 13 (gateF (inB i 0 (nI y - 1) && inB w 0 2) (upd (f13_) (3 * i.toNatClampNeg + w.toNatClampNeg) v) (f13_))) ++ post)) := by
  subst e0_; subst e13_; subst e14_
  exact t_X6_alterRow l ad D cs h σ pre post n y i w v hN hn hY hy0
theorem dX6_prove_0 : decode cX6_prove 0 = .ok (.aload_n 0, 1) := by decide +kernel
theorem dX6_prove_1 : decode cX6_prove 1 = .ok (.iload_n 1, 1) := by decide +kernel
theorem dX6_prove_2 : decode cX6_prove 2 = .ok (.invokevirtual 168, 3) := by decide +kernel
theorem dX6_prove_5 : decode cX6_prove 5 = .ok (.ifCond .eq 15, 3) := by decide +kernel
theorem dX6_prove_8 : decode cX6_prove 8 = .ok (.iload_n 2, 1) := by decide +kernel
theorem dX6_prove_9 : decode cX6_prove 9 = .ok (.i2l, 1) := by decide +kernel
theorem dX6_prove_10 : decode cX6_prove 10 = .ok (.lconst 1, 1) := by decide +kernel
theorem dX6_prove_11 : decode cX6_prove 11 = .ok (.ldc2_w 264, 3) := by decide +kernel
theorem dX6_prove_14 : decode cX6_prove 14 = .ok (.invokestatic 57, 3) := by decide +kernel
theorem dX6_prove_17 : decode cX6_prove 17 = .ok (.ifCond .ne 5, 3) := by decide +kernel
theorem dX6_prove_20 : decode cX6_prove 20 = .ok (.iconst (-1), 1) := by decide +kernel
theorem dX6_prove_21 : decode cX6_prove 21 = .ok (.ireturn, 1) := by decide +kernel
theorem dX6_prove_22 : decode cX6_prove 22 = .ok (.aload_n 0, 1) := by decide +kernel
theorem dX6_prove_23 : decode cX6_prove 23 = .ok (.getfield 7, 3) := by decide +kernel
theorem dX6_prove_26 : decode cX6_prove 26 = .ok (.aload_n 0, 1) := by decide +kernel
theorem dX6_prove_27 : decode cX6_prove 27 = .ok (.getfield 16, 3) := by decide +kernel
theorem dX6_prove_30 : decode cX6_prove 30 = .ok (.invokestatic 134, 3) := by decide +kernel
theorem dX6_prove_33 : decode cX6_prove 33 = .ok (.iconst 0, 1) := by decide +kernel
theorem dX6_prove_34 : decode cX6_prove 34 = .ok (.istore_n 3, 1) := by decide +kernel
theorem dX6_prove_35 : decode cX6_prove 35 = .ok (.iload_n 3, 1) := by decide +kernel
theorem dX6_prove_36 : decode cX6_prove 36 = .ok (.iload_n 2, 1) := by decide +kernel
theorem dX6_prove_37 : decode cX6_prove 37 = .ok (.if_icmp .ge 57, 3) := by decide +kernel
theorem dX6_prove_40 : decode cX6_prove 40 = .ok (.aload_n 0, 1) := by decide +kernel
theorem dX6_prove_41 : decode cX6_prove 41 = .ok (.invokevirtual 196, 3) := by decide +kernel
theorem dX6_prove_44 : decode cX6_prove 44 = .ok (.aload_n 0, 1) := by decide +kernel
theorem dX6_prove_45 : decode cX6_prove 45 = .ok (.getfield 28, 3) := by decide +kernel
theorem dX6_prove_48 : decode cX6_prove 48 = .ok (.iconst 3, 1) := by decide +kernel
theorem dX6_prove_49 : decode cX6_prove 49 = .ok (.iload_n 3, 1) := by decide +kernel
theorem dX6_prove_50 : decode cX6_prove 50 = .ok (.imul, 1) := by decide +kernel
theorem dX6_prove_51 : decode cX6_prove 51 = .ok (.aload_n 0, 1) := by decide +kernel
theorem dX6_prove_52 : decode cX6_prove 52 = .ok (.iload_n 1, 1) := by decide +kernel
theorem dX6_prove_53 : decode cX6_prove 53 = .ok (.iconst 3, 1) := by decide +kernel
theorem dX6_prove_54 : decode cX6_prove 54 = .ok (.invokevirtual 156, 3) := by decide +kernel
theorem dX6_prove_57 : decode cX6_prove 57 = .ok (.iastore, 1) := by decide +kernel
theorem dX6_prove_58 : decode cX6_prove 58 = .ok (.aload_n 0, 1) := by decide +kernel
theorem dX6_prove_59 : decode cX6_prove 59 = .ok (.getfield 28, 3) := by decide +kernel
theorem dX6_prove_62 : decode cX6_prove 62 = .ok (.iconst 3, 1) := by decide +kernel
theorem dX6_prove_63 : decode cX6_prove 63 = .ok (.iload_n 3, 1) := by decide +kernel
theorem dX6_prove_64 : decode cX6_prove 64 = .ok (.imul, 1) := by decide +kernel
theorem dX6_prove_65 : decode cX6_prove 65 = .ok (.iconst 1, 1) := by decide +kernel
theorem dX6_prove_66 : decode cX6_prove 66 = .ok (.iadd, 1) := by decide +kernel
theorem dX6_prove_67 : decode cX6_prove 67 = .ok (.aload_n 0, 1) := by decide +kernel
theorem dX6_prove_68 : decode cX6_prove 68 = .ok (.iload_n 1, 1) := by decide +kernel
theorem dX6_prove_69 : decode cX6_prove 69 = .ok (.iconst 4, 1) := by decide +kernel
theorem dX6_prove_70 : decode cX6_prove 70 = .ok (.invokevirtual 156, 3) := by decide +kernel
theorem dX6_prove_73 : decode cX6_prove 73 = .ok (.iastore, 1) := by decide +kernel
theorem dX6_prove_74 : decode cX6_prove 74 = .ok (.aload_n 0, 1) := by decide +kernel
theorem dX6_prove_75 : decode cX6_prove 75 = .ok (.getfield 28, 3) := by decide +kernel
theorem dX6_prove_78 : decode cX6_prove 78 = .ok (.iconst 3, 1) := by decide +kernel
theorem dX6_prove_79 : decode cX6_prove 79 = .ok (.iload_n 3, 1) := by decide +kernel
theorem dX6_prove_80 : decode cX6_prove 80 = .ok (.imul, 1) := by decide +kernel
theorem dX6_prove_81 : decode cX6_prove 81 = .ok (.iconst 2, 1) := by decide +kernel
theorem dX6_prove_82 : decode cX6_prove 82 = .ok (.iadd, 1) := by decide +kernel
theorem dX6_prove_83 : decode cX6_prove 83 = .ok (.aload_n 0, 1) := by decide +kernel
theorem dX6_prove_84 : decode cX6_prove 84 = .ok (.invokevirtual 222, 3) := by decide +kernel
theorem dX6_prove_87 : decode cX6_prove 87 = .ok (.iastore, 1) := by decide +kernel
theorem dX6_prove_88 : decode cX6_prove 88 = .ok (.iinc 3 1, 3) := by decide +kernel
theorem dX6_prove_91 : decode cX6_prove 91 = .ok (.goto (-56), 3) := by decide +kernel
theorem dX6_prove_94 : decode cX6_prove 94 = .ok (.aload_n 0, 1) := by decide +kernel
theorem dX6_prove_95 : decode cX6_prove 95 = .ok (.getfield 16, 3) := by decide +kernel
theorem dX6_prove_98 : decode cX6_prove 98 = .ok (.aload_n 0, 1) := by decide +kernel
theorem dX6_prove_99 : decode cX6_prove 99 = .ok (.getfield 7, 3) := by decide +kernel
theorem dX6_prove_102 : decode cX6_prove 102 = .ok (.invokestatic 134, 3) := by decide +kernel
theorem dX6_prove_105 : decode cX6_prove 105 = .ok (.aload_n 0, 1) := by decide +kernel
theorem dX6_prove_106 : decode cX6_prove 106 = .ok (.iload_n 2, 1) := by decide +kernel
theorem dX6_prove_107 : decode cX6_prove 107 = .ok (.putfield 141, 3) := by decide +kernel
theorem dX6_prove_110 : decode cX6_prove 110 = .ok (.iload_n 2, 1) := by decide +kernel
theorem dX6_prove_111 : decode cX6_prove 111 = .ok (.ireturn, 1) := by decide +kernel
set_option maxHeartbeats 400000 in
set_option maxRecDepth 20000 in
theorem t_X6_prove (l : Launch) (ad : Nat → Nat) (D : va_G) (cs : Nat → ClassId) (h : Nat → Nat) (σ : Nat → Nat → Int32) (pre post : va_W) (n : Nat) (o k : Int32) (hN : σ 0 0 = nI n) (hn : n ≤ 8) : CTi l yX6_prove cX6_prove 4 .int ({ frames := 6, cells := 0, slots := 0, locals := 135 }) ad D (tysW cs) (pre ++ (wM cs h σ ++ post)) [.ref (h 0), .int o, .int k] (gateI (oneB n o && inB k 1 10) k (-1)) (pre ++ (wM cs h (su (su (su σ 2 (gateF (oneB n o && inB k 1 10) (σ 0) (σ 2))) 13 (gateF (oneB n o && inB k 1 10) (prN n (σ 0) (σ 13) o.toNatClampNeg k.toNatClampNeg) (σ 13))) 14 (gateF (oneB n o && inB k 1 10) (fun _ => k) (σ 14))) ++ post)) := by
  refine CTi.of (lv0 := [(0, .ref (h 0)), (1, .int o), (2, .int k)]) (by decide) rfl (Nat.le_of_ble_eq_true rfl) (fun p e s m args below meth c A C hr hlk => ?_)
  have C : Cx p s m args c cX6_prove 4 RX6 ad D (tysW cs) A := C
  refine r_aload_n (pc := 0) C 0 dX6_prove_0 rfl rfl ?_
  refine r_iload_n (pc := 1) C 1 dX6_prove_1 rfl rfl ?_
  refine rc_Vi (pc := 2) C (t_X6_isOne' l ad D cs h σ pre post (σ 0) (rfl) n o hN hn) mv_X6_isOne ml_RX6_168 rfl ⟨Nat.le_of_ble_eq_true rfl, Nat.le_of_ble_eq_true rfl⟩ ⟨rfl, rfl⟩ (q0 := 0) rfl rfl rfl rfl rfl rfl (Nat.le_of_ble_eq_true rfl) dX6_prove_2 ?_
  refine r_if_eq (pc := 5) C 20 dX6_prove_5 (by decide) (fun c_1 => ?_) (fun c_1 => ?_)
  · skip
    have c_1 := bI_0.mp c_1
    refine r_iconst (pc := 20) C (-1) dX6_prove_20 (by decide) ?_
    exact r_iret (pc := 21) C hr hlk dX6_prove_21 rfl (by first | rfl | (simp [gateI, gateF, *]; done) | simp_all [gateI, gateF]) (by rw [show (gateF (oneB n o && inB k 1 10) (σ 0) (σ 2) : Nat → Int32) = σ 2 from (by first | rfl | (simp [gateI, gateF, *]; done) | simp_all [gateI, gateF]), show (gateF (oneB n o && inB k 1 10) (prN n (σ 0) (σ 13) o.toNatClampNeg k.toNatClampNeg) (σ 13) : Nat → Int32) = σ 13 from (by first | rfl | (simp [gateI, gateF, *]; done) | simp_all [gateI, gateF]), show (gateF (oneB n o && inB k 1 10) (fun _ => k) (σ 14) : Nat → Int32) = σ 14 from (by first | rfl | (simp [gateI, gateF, *]; done) | simp_all [gateI, gateF])] <;> rfl)
  · skip
    have c_1 := bI_n.mp c_1
    obtain ⟨j, h_j, rfl⟩ := one_nat (by omega) c_1
    have e_j : (nI j).toNatClampNeg = j := nI_clamp (by omega)
    refine r_iload_n (pc := 8) C 2 dX6_prove_8 rfl rfl ?_
    refine r_i2l (pc := 9) C dX6_prove_9 ?_
    refine r_lconst (pc := 10) C 1 dX6_prove_10 (by decide) ?_
    refine r_ldc2 (pc := 11) C dX6_prove_11 cn_RX6_264 ?_
    refine rc_Si (pc := 14) C (t_X6_isIn l ad D (tysW cs) (wM cs h σ) pre post  k (1 : Int32) (10 : Int32) ) ms_X6_isIn ml_RX6_57 rfl ⟨Nat.le_of_ble_eq_true rfl, Nat.le_of_ble_eq_true rfl⟩ ⟨rfl, rfl⟩ rfl rfl rfl (Nat.le_of_ble_eq_true rfl) dX6_prove_14 ?_
    refine r_if_ne (pc := 17) C 22 dX6_prove_17 (by decide) (fun c_2 => ?_) (fun c_2 => ?_)
    · skip
      have c_2 := bI_n.mp c_2
      obtain ⟨t, l_t, h_t, rfl⟩ := rng_nat 1 10 (by decide) (by decide) c_2
      have e_t : (nI t).toNatClampNeg = t := nI_clamp (by omega)
      refine r_aload_n (pc := 22) C 0 dX6_prove_22 rfl rfl ?_
      refine mg_s (pc := 23) C fl_RX6_7 dX6_prove_23 ?_
      refine r_aload_n (pc := 26) C 0 dX6_prove_26 rfl rfl ?_
      refine mg_aside (pc := 27) C fl_RX6_16 dX6_prove_27 ?_
      refine rc_Sv (pc := 30) C (t_X6_copyRow_0_2' l ad D cs h σ pre post (σ 0) (rfl)  ) ms_X6_copyRow ml_RX6_134 rfl ⟨Nat.le_of_ble_eq_true rfl, Nat.le_of_ble_eq_true rfl⟩ ⟨rfl, rfl⟩ rfl rfl rfl (Nat.le_of_ble_eq_true rfl) dX6_prove_30 ?_
      refine r_iconst (pc := 33) C 0 dX6_prove_33 (by decide) ?_
      refine r_istore_n (pc := 34) C [(3, .int 0), (0, .ref (h 0)), (1, .int (nI j)), (2, .int (nI t))] dX6_prove_34 rfl (by decide) rfl ?_
      refine r_pick (lv' := [(0, .ref (h 0)), (1, .int (nI j)), (2, .int (nI t)), (3, .int 0)]) [1, 2, 3, 0] rfl ?_
      refine r_blk (blk' := wM cs h (su (su (su σ 0 (daysF n (σ 0) 0)) 2 (σ 0)) 13 (prN n (σ 0) (σ 13) j 0))) (rfl) ?_
      refine r_loop (blkf := fun i => wM cs h (su (su (su σ 0 (daysF n (σ 0) i)) 2 (σ 0)) 13 (prN n (σ 0) (σ 13) j i))) (lvf := fun i => [(0, .ref (h 0)), (1, .int (nI j)), (2, .int (nI t)), (3, .int (nI i))]) (fun i => True) t 0 (by omega) (trivial) (fun i h_i _ ih => ?_)
      show VX p l e _ s m args below meth c _ D A 4 pre (wM cs h (su (su (su σ 0 (daysF n (σ 0) i)) 2 (σ 0)) 13 (prN n (σ 0) (σ 13) j i))) post 35 [(0, .ref (h 0)), (1, .int (nI j)), (2, .int (nI t)), (3, .int (nI i))] []
      refine r_iload_n (pc := 35) C 3 dX6_prove_35 rfl rfl ?_
      refine r_iload_n (pc := 36) C 2 dX6_prove_36 rfl rfl ?_
      refine r_icmp_ge (pc := 37) C 94 dX6_prove_37 (by decide) (fun c_3 => ?_) (fun c_3 => ?_)
      · skip
        have c_3 := nIc_ge_t (a := i) (b := t) (by omega) (by omega) c_3
        obtain rfl : t = i := by omega
        refine r_aload_n (pc := 94) C 0 dX6_prove_94 rfl rfl ?_
        refine mg_aside (pc := 95) C fl_RX6_16 dX6_prove_95 ?_
        refine r_aload_n (pc := 98) C 0 dX6_prove_98 rfl rfl ?_
        refine mg_s (pc := 99) C fl_RX6_7 dX6_prove_99 ?_
        refine rc_Sv (pc := 102) C (t_X6_copyRow_2_0' l ad D cs h (su (su (su σ 0 (daysF n (σ 0) t)) 2 (σ 0)) 13 (prN n (σ 0) (σ 13) j t)) pre post (σ 0) ((su_nn (by decide)).trans su_at)  ) ms_X6_copyRow ml_RX6_134 rfl ⟨Nat.le_of_ble_eq_true rfl, Nat.le_of_ble_eq_true rfl⟩ ⟨rfl, rfl⟩ rfl rfl rfl (Nat.le_of_ble_eq_true rfl) dX6_prove_102 ?_
        refine r_blk (blk' := wM cs h (su (su σ 2 (σ 0)) 13 (prN n (σ 0) (σ 13) j t))) (congrArg (wM cs h) (by rw [su_cm (k := 13) (j := 0) (by decide), su_cm (k := 2) (j := 0) (by decide), su_su (k := 0), su_id (k := 0) (rfl)])) ?_
        refine r_aload_n (pc := 105) C 0 dX6_prove_105 rfl rfl ?_
        refine r_iload_n (pc := 106) C 2 dX6_prove_106 rfl rfl ?_
        refine mp_rowN (pc := 107) C fl_RX6_141 dX6_prove_107 ?_
        refine r_iload_n (pc := 110) C 2 dX6_prove_110 rfl rfl ?_
        exact r_iret (pc := 111) C hr hlk dX6_prove_111 rfl (by first | rfl | (simp [gateI, gateF, *]; done) | simp_all [gateI, gateF]) (by rw [show (gateF (oneB n (nI j) && inB (nI t) 1 10) (σ 0) (σ 2) : Nat → Int32) = σ 0 from (by first | rfl | (simp [gateI, gateF, *]; done) | simp_all [gateI, gateF]), show (gateF (oneB n (nI j) && inB (nI t) 1 10) (prN n (σ 0) (σ 13) (nI j).toNatClampNeg (nI t).toNatClampNeg) (σ 13) : Nat → Int32) = prN n (σ 0) (σ 13) j t from (by first | rfl | (simp [gateI, gateF, *]; done) | simp_all [gateI, gateF]), show (gateF (oneB n (nI j) && inB (nI t) 1 10) (fun _ => (nI t)) (σ 14) : Nat → Int32) = fun _ => nI t from (by first | rfl | (simp [gateI, gateF, *]; done) | simp_all [gateI, gateF])] <;> rfl)
      · skip
        have c_3 := nIc_ge_f (a := i) (b := t) (by omega) (by omega) c_3
        refine r_aload_n (pc := 40) C 0 dX6_prove_40 rfl rfl ?_
        refine rc_Vv (pc := 41) C (t_X6_goesOn' l ad D cs h (su (su (su σ 0 (daysF n (σ 0) i)) 2 (σ 0)) 13 (prN n (σ 0) (σ 13) j i)) pre post (daysF n (σ 0) i) (((su_nn (by decide)).trans (su_nn (by decide))).trans su_at) n (daysF_0 hN) hn) mv_X6_goesOn ml_RX6_196 rfl ⟨Nat.le_of_ble_eq_true rfl, Nat.le_of_ble_eq_true rfl⟩ ⟨rfl, rfl⟩ (q0 := 0) rfl rfl rfl rfl rfl rfl (Nat.le_of_ble_eq_true rfl) dX6_prove_41 ?_
        refine r_blk (blk' := wM cs h (su (su (su σ 0 (dayF n (daysF n (σ 0) i))) 2 (σ 0)) 13 (prN n (σ 0) (σ 13) j i))) (congrArg (wM cs h) (by rw [su_cm (k := 13) (j := 0) (by decide), su_cm (k := 2) (j := 0) (by decide), su_su (k := 0)])) ?_
        have f_4 : dayF n (daysF n (σ 0) i) 0 = nI n := dayF_0 (daysF_0 hN)
        refine r_aload_n (pc := 44) C 0 dX6_prove_44 rfl rfl ?_
        refine mg_rows (pc := 45) C fl_RX6_28 dX6_prove_45 ?_
        refine r_iconst (pc := 48) C 3 dX6_prove_48 (by decide) ?_
        refine r_iload_n (pc := 49) C 3 dX6_prove_49 rfl rfl ?_
        refine r_imul (pc := 50) C dX6_prove_50 ?_
        refine r_eqi (y := nI (3 * i)) (pk_mul 3 i) ?_
        refine r_aload_n (pc := 51) C 0 dX6_prove_51 rfl rfl ?_
        refine r_iload_n (pc := 52) C 1 dX6_prove_52 rfl rfl ?_
        refine r_iconst (pc := 53) C 3 dX6_prove_53 (by decide) ?_
        refine rc_Vi (pc := 54) C (t_X6_its' l ad D cs h (su (su (su σ 0 (dayF n (daysF n (σ 0) i))) 2 (σ 0)) 13 (prN n (σ 0) (σ 13) j i)) pre post (dayF n (daysF n (σ 0) i)) (((su_nn (by decide)).trans (su_nn (by decide))).trans su_at) j 3 (by omega) (by omega)) mv_X6_its ml_RX6_156 rfl ⟨Nat.le_of_ble_eq_true rfl, Nat.le_of_ble_eq_true rfl⟩ ⟨rfl, rfl⟩ (q0 := 0) rfl rfl rfl rfl rfl rfl (Nat.le_of_ble_eq_true rfl) dX6_prove_54 ?_
        refine as_rows (pc := 57) C (3 * i) (rfl) (by omega) dX6_prove_57 (prN n (σ 0) (σ 13) j i) (su_at) ?_
        refine r_blk (blk' := wM cs h (su (su (su σ 0 (dayF n (daysF n (σ 0) i))) 2 (σ 0)) 13 (upd (prN n (σ 0) (σ 13) j i) (3 * i) (dayF n (daysF n (σ 0) i) (8 + 5 * j + 3))))) (congrArg (wM cs h) (by rw [su_su])) ?_
        refine r_aload_n (pc := 58) C 0 dX6_prove_58 rfl rfl ?_
        refine mg_rows (pc := 59) C fl_RX6_28 dX6_prove_59 ?_
        refine r_iconst (pc := 62) C 3 dX6_prove_62 (by decide) ?_
        refine r_iload_n (pc := 63) C 3 dX6_prove_63 rfl rfl ?_
        refine r_imul (pc := 64) C dX6_prove_64 ?_
        refine r_eqi (y := nI (3 * i)) (pk_mul 3 i) ?_
        refine r_iconst (pc := 65) C 1 dX6_prove_65 (by decide) ?_
        refine r_iadd (pc := 66) C dX6_prove_66 ?_
        refine r_eqi (y := nI (3 * i + 1)) (nI_add (3 * i) 1) ?_
        refine r_aload_n (pc := 67) C 0 dX6_prove_67 rfl rfl ?_
        refine r_iload_n (pc := 68) C 1 dX6_prove_68 rfl rfl ?_
        refine r_iconst (pc := 69) C 4 dX6_prove_69 (by decide) ?_
        refine rc_Vi (pc := 70) C (t_X6_its' l ad D cs h (su (su (su σ 0 (dayF n (daysF n (σ 0) i))) 2 (σ 0)) 13 (upd (prN n (σ 0) (σ 13) j i) (3 * i) (dayF n (daysF n (σ 0) i) (8 + 5 * j + 3)))) pre post (dayF n (daysF n (σ 0) i)) (((su_nn (by decide)).trans (su_nn (by decide))).trans su_at) j 4 (by omega) (by omega)) mv_X6_its ml_RX6_156 rfl ⟨Nat.le_of_ble_eq_true rfl, Nat.le_of_ble_eq_true rfl⟩ ⟨rfl, rfl⟩ (q0 := 0) rfl rfl rfl rfl rfl rfl (Nat.le_of_ble_eq_true rfl) dX6_prove_70 ?_
        refine as_rows (pc := 73) C (3 * i + 1) (rfl) (by omega) dX6_prove_73 (upd (prN n (σ 0) (σ 13) j i) (3 * i) (dayF n (daysF n (σ 0) i) (8 + 5 * j + 3))) (su_at) ?_
        refine r_blk (blk' := wM cs h (su (su (su σ 0 (dayF n (daysF n (σ 0) i))) 2 (σ 0)) 13 (upd (upd (prN n (σ 0) (σ 13) j i) (3 * i) (dayF n (daysF n (σ 0) i) (8 + 5 * j + 3))) (3 * i + 1) (dayF n (daysF n (σ 0) i) (8 + 5 * j + 4))))) (congrArg (wM cs h) (by rw [su_su])) ?_
        refine r_aload_n (pc := 74) C 0 dX6_prove_74 rfl rfl ?_
        refine mg_rows (pc := 75) C fl_RX6_28 dX6_prove_75 ?_
        refine r_iconst (pc := 78) C 3 dX6_prove_78 (by decide) ?_
        refine r_iload_n (pc := 79) C 3 dX6_prove_79 rfl rfl ?_
        refine r_imul (pc := 80) C dX6_prove_80 ?_
        refine r_eqi (y := nI (3 * i)) (pk_mul 3 i) ?_
        refine r_iconst (pc := 81) C 2 dX6_prove_81 (by decide) ?_
        refine r_iadd (pc := 82) C dX6_prove_82 ?_
        refine r_eqi (y := nI (3 * i + 2)) (nI_add (3 * i) 2) ?_
        refine r_aload_n (pc := 83) C 0 dX6_prove_83 rfl rfl ?_
        refine rc_Vi (pc := 84) C (t_X6_onSteps' l ad D cs h (su (su (su σ 0 (dayF n (daysF n (σ 0) i))) 2 (σ 0)) 13 (upd (upd (prN n (σ 0) (σ 13) j i) (3 * i) (dayF n (daysF n (σ 0) i) (8 + 5 * j + 3))) (3 * i + 1) (dayF n (daysF n (σ 0) i) (8 + 5 * j + 4)))) pre post (dayF n (daysF n (σ 0) i)) (((su_nn (by decide)).trans (su_nn (by decide))).trans su_at) n f_4 hn) mv_X6_onSteps ml_RX6_222 rfl ⟨Nat.le_of_ble_eq_true rfl, Nat.le_of_ble_eq_true rfl⟩ ⟨rfl, rfl⟩ (q0 := 0) rfl rfl rfl rfl rfl rfl (Nat.le_of_ble_eq_true rfl) dX6_prove_84 ?_
        refine as_rows (pc := 87) C (3 * i + 2) (rfl) (by omega) dX6_prove_87 (upd (upd (prN n (σ 0) (σ 13) j i) (3 * i) (dayF n (daysF n (σ 0) i) (8 + 5 * j + 3))) (3 * i + 1) (dayF n (daysF n (σ 0) i) (8 + 5 * j + 4))) (su_at) ?_
        refine r_blk (blk' := wM cs h (su (su (su σ 0 (dayF n (daysF n (σ 0) i))) 2 (σ 0)) 13 (upd (upd (upd (prN n (σ 0) (σ 13) j i) (3 * i) (dayF n (daysF n (σ 0) i) (8 + 5 * j + 3))) (3 * i + 1) (dayF n (daysF n (σ 0) i) (8 + 5 * j + 4))) (3 * i + 2) (onF (dayF n (daysF n (σ 0) i)) n)))) (congrArg (wM cs h) (by rw [su_su])) ?_
        refine r_iinc (pc := 88) C (nI (i + 1)) 3 [(3, .int (nI (i + 1))), (0, .ref (h 0)), (1, .int (nI j)), (2, .int (nI t))] dX6_prove_88 rfl (nI_1 _) (by decide) rfl ?_
        refine r_goto (pc := 91) C 35 dX6_prove_91 (by decide) ?_
        refine r_pick (lv' := [(0, .ref (h 0)), (1, .int (nI j)), (2, .int (nI t)), (3, .int (nI (i + 1)))]) [1, 2, 3, 0] rfl ?_
        refine r_blk (blk' := wM cs h (su (su (su σ 0 (daysF n (σ 0) (i + 1))) 2 (σ 0)) 13 (prN n (σ 0) (σ 13) j (i + 1)))) (rfl) ?_
        exact ih (by omega) (trivial)
    · skip
      have c_2 := bI_0.mp c_2
      refine r_iconst (pc := 20) C (-1) dX6_prove_20 (by decide) ?_
      exact r_iret (pc := 21) C hr hlk dX6_prove_21 rfl (by first | rfl | (simp [gateI, gateF, *]; done) | simp_all [gateI, gateF]) (by rw [show (gateF (oneB n (nI j) && inB k 1 10) (σ 0) (σ 2) : Nat → Int32) = σ 2 from (by first | rfl | (simp [gateI, gateF, *]; done) | simp_all [gateI, gateF]), show (gateF (oneB n (nI j) && inB k 1 10) (prN n (σ 0) (σ 13) (nI j).toNatClampNeg k.toNatClampNeg) (σ 13) : Nat → Int32) = σ 13 from (by first | rfl | (simp [gateI, gateF, *]; done) | simp_all [gateI, gateF]), show (gateF (oneB n (nI j) && inB k 1 10) (fun _ => k) (σ 14) : Nat → Int32) = σ 14 from (by first | rfl | (simp [gateI, gateF, *]; done) | simp_all [gateI, gateF])] <;> rfl)
theorem t_X6_prove' (l : Launch) (ad : Nat → Nat) (D : va_G) (cs : Nat → ClassId) (h : Nat → Nat) (σ : Nat → Nat → Int32) (pre post : va_W) (f0_ : Nat → Int32) (e0_ : σ 0 = f0_) (f2_ : Nat → Int32) (e2_ : σ 2 = f2_) (f13_ : Nat → Int32) (e13_ : σ 13 = f13_) (f14_ : Nat → Int32) (e14_ : σ 14 = f14_) (n : Nat) (o k : Int32) (hN : f0_ 0 = nI n) (hn : n ≤ 8) : CTi l yX6_prove cX6_prove 4 .int ({ frames := 6, cells := 0, slots := 0, locals := 135 }) ad D (tysW cs) (pre ++ (wM cs h σ ++ post)) [.ref (h 0), .int o, .int k] (gateI (oneB n o && inB k 1 10) k (-1)) (pre ++ (wM cs h (su (su (su σ 2 (gateF (oneB n o && inB k 1 10) f0_ (f2_))) 13 (gateF (oneB n o && inB k 1 10) (prN n f0_ (f13_) o.toNatClampNeg k.toNatClampNeg) (f13_))) 14 (gateF (oneB n o && inB k 1 10) (fun _ => k) (f14_))) ++ post)) := by
  subst e0_; subst e2_; subst e13_; subst e14_
  exact t_X6_prove l ad D cs h σ pre post n o k hN hn
theorem dX6_judge_0 : decode cX6_judge 0 = .ok (.aload_n 0, 1) := by decide +kernel
theorem dX6_judge_1 : decode cX6_judge 1 = .ok (.iload_n 1, 1) := by decide +kernel
theorem dX6_judge_2 : decode cX6_judge 2 = .ok (.invokevirtual 168, 3) := by decide +kernel
theorem dX6_judge_5 : decode cX6_judge 5 = .ok (.ifCond .ne 5, 3) := by decide +kernel
theorem dX6_judge_8 : decode cX6_judge 8 = .ok (.iconst (-1), 1) := by decide +kernel
theorem dX6_judge_9 : decode cX6_judge 9 = .ok (.ireturn, 1) := by decide +kernel
theorem dX6_judge_10 : decode cX6_judge 10 = .ok (.aload_n 0, 1) := by decide +kernel
theorem dX6_judge_11 : decode cX6_judge 11 = .ok (.getfield 7, 3) := by decide +kernel
theorem dX6_judge_14 : decode cX6_judge 14 = .ok (.aload_n 0, 1) := by decide +kernel
theorem dX6_judge_15 : decode cX6_judge 15 = .ok (.getfield 16, 3) := by decide +kernel
theorem dX6_judge_18 : decode cX6_judge 18 = .ok (.invokestatic 134, 3) := by decide +kernel
theorem dX6_judge_21 : decode cX6_judge 21 = .ok (.iconst 0, 1) := by decide +kernel
theorem dX6_judge_22 : decode cX6_judge 22 = .ok (.istore_n 2, 1) := by decide +kernel
theorem dX6_judge_23 : decode cX6_judge 23 = .ok (.iconst 1, 1) := by decide +kernel
theorem dX6_judge_24 : decode cX6_judge 24 = .ok (.istore_n 3, 1) := by decide +kernel
theorem dX6_judge_25 : decode cX6_judge 25 = .ok (.iload_n 2, 1) := by decide +kernel
theorem dX6_judge_26 : decode cX6_judge 26 = .ok (.aload_n 0, 1) := by decide +kernel
theorem dX6_judge_27 : decode cX6_judge 27 = .ok (.getfield 141, 3) := by decide +kernel
theorem dX6_judge_30 : decode cX6_judge 30 = .ok (.if_icmp .ge 76, 3) := by decide +kernel
theorem dX6_judge_33 : decode cX6_judge 33 = .ok (.iload_n 3, 1) := by decide +kernel
theorem dX6_judge_34 : decode cX6_judge 34 = .ok (.ifCond .eq 72, 3) := by decide +kernel
theorem dX6_judge_37 : decode cX6_judge 37 = .ok (.aload_n 0, 1) := by decide +kernel
theorem dX6_judge_38 : decode cX6_judge 38 = .ok (.invokevirtual 196, 3) := by decide +kernel
theorem dX6_judge_41 : decode cX6_judge 41 = .ok (.aload_n 0, 1) := by decide +kernel
theorem dX6_judge_42 : decode cX6_judge 42 = .ok (.getfield 28, 3) := by decide +kernel
theorem dX6_judge_45 : decode cX6_judge 45 = .ok (.iconst 3, 1) := by decide +kernel
theorem dX6_judge_46 : decode cX6_judge 46 = .ok (.iload_n 2, 1) := by decide +kernel
theorem dX6_judge_47 : decode cX6_judge 47 = .ok (.imul, 1) := by decide +kernel
theorem dX6_judge_48 : decode cX6_judge 48 = .ok (.iaload, 1) := by decide +kernel
theorem dX6_judge_49 : decode cX6_judge 49 = .ok (.aload_n 0, 1) := by decide +kernel
theorem dX6_judge_50 : decode cX6_judge 50 = .ok (.iload_n 1, 1) := by decide +kernel
theorem dX6_judge_51 : decode cX6_judge 51 = .ok (.iconst 3, 1) := by decide +kernel
theorem dX6_judge_52 : decode cX6_judge 52 = .ok (.invokevirtual 156, 3) := by decide +kernel
theorem dX6_judge_55 : decode cX6_judge 55 = .ok (.if_icmp .ne 43, 3) := by decide +kernel
theorem dX6_judge_58 : decode cX6_judge 58 = .ok (.aload_n 0, 1) := by decide +kernel
theorem dX6_judge_59 : decode cX6_judge 59 = .ok (.getfield 28, 3) := by decide +kernel
theorem dX6_judge_62 : decode cX6_judge 62 = .ok (.iconst 3, 1) := by decide +kernel
theorem dX6_judge_63 : decode cX6_judge 63 = .ok (.iload_n 2, 1) := by decide +kernel
theorem dX6_judge_64 : decode cX6_judge 64 = .ok (.imul, 1) := by decide +kernel
theorem dX6_judge_65 : decode cX6_judge 65 = .ok (.iconst 1, 1) := by decide +kernel
theorem dX6_judge_66 : decode cX6_judge 66 = .ok (.iadd, 1) := by decide +kernel
theorem dX6_judge_67 : decode cX6_judge 67 = .ok (.iaload, 1) := by decide +kernel
theorem dX6_judge_68 : decode cX6_judge 68 = .ok (.aload_n 0, 1) := by decide +kernel
theorem dX6_judge_69 : decode cX6_judge 69 = .ok (.iload_n 1, 1) := by decide +kernel
theorem dX6_judge_70 : decode cX6_judge 70 = .ok (.iconst 4, 1) := by decide +kernel
theorem dX6_judge_71 : decode cX6_judge 71 = .ok (.invokevirtual 156, 3) := by decide +kernel
theorem dX6_judge_74 : decode cX6_judge 74 = .ok (.if_icmp .ne 24, 3) := by decide +kernel
theorem dX6_judge_77 : decode cX6_judge 77 = .ok (.aload_n 0, 1) := by decide +kernel
theorem dX6_judge_78 : decode cX6_judge 78 = .ok (.getfield 28, 3) := by decide +kernel
theorem dX6_judge_81 : decode cX6_judge 81 = .ok (.iconst 3, 1) := by decide +kernel
theorem dX6_judge_82 : decode cX6_judge 82 = .ok (.iload_n 2, 1) := by decide +kernel
theorem dX6_judge_83 : decode cX6_judge 83 = .ok (.imul, 1) := by decide +kernel
theorem dX6_judge_84 : decode cX6_judge 84 = .ok (.iconst 2, 1) := by decide +kernel
theorem dX6_judge_85 : decode cX6_judge 85 = .ok (.iadd, 1) := by decide +kernel
theorem dX6_judge_86 : decode cX6_judge 86 = .ok (.iaload, 1) := by decide +kernel
theorem dX6_judge_87 : decode cX6_judge 87 = .ok (.aload_n 0, 1) := by decide +kernel
theorem dX6_judge_88 : decode cX6_judge 88 = .ok (.invokevirtual 222, 3) := by decide +kernel
theorem dX6_judge_91 : decode cX6_judge 91 = .ok (.if_icmp .ne 7, 3) := by decide +kernel
theorem dX6_judge_94 : decode cX6_judge 94 = .ok (.iconst 1, 1) := by decide +kernel
theorem dX6_judge_95 : decode cX6_judge 95 = .ok (.goto 4, 3) := by decide +kernel
theorem dX6_judge_98 : decode cX6_judge 98 = .ok (.iconst 0, 1) := by decide +kernel
theorem dX6_judge_99 : decode cX6_judge 99 = .ok (.istore_n 3, 1) := by decide +kernel
theorem dX6_judge_100 : decode cX6_judge 100 = .ok (.iinc 2 1, 3) := by decide +kernel
theorem dX6_judge_103 : decode cX6_judge 103 = .ok (.goto (-78), 3) := by decide +kernel
theorem dX6_judge_106 : decode cX6_judge 106 = .ok (.aload_n 0, 1) := by decide +kernel
theorem dX6_judge_107 : decode cX6_judge 107 = .ok (.getfield 16, 3) := by decide +kernel
theorem dX6_judge_110 : decode cX6_judge 110 = .ok (.aload_n 0, 1) := by decide +kernel
theorem dX6_judge_111 : decode cX6_judge 111 = .ok (.getfield 7, 3) := by decide +kernel
theorem dX6_judge_114 : decode cX6_judge 114 = .ok (.invokestatic 134, 3) := by decide +kernel
theorem dX6_judge_117 : decode cX6_judge 117 = .ok (.iload_n 3, 1) := by decide +kernel
theorem dX6_judge_118 : decode cX6_judge 118 = .ok (.ifCond .eq 7, 3) := by decide +kernel
theorem dX6_judge_121 : decode cX6_judge 121 = .ok (.iconst 0, 1) := by decide +kernel
theorem dX6_judge_122 : decode cX6_judge 122 = .ok (.goto 4, 3) := by decide +kernel
theorem dX6_judge_125 : decode cX6_judge 125 = .ok (.iload_n 2, 1) := by decide +kernel
theorem dX6_judge_126 : decode cX6_judge 126 = .ok (.ireturn, 1) := by decide +kernel
set_option maxHeartbeats 400000 in
set_option maxRecDepth 20000 in
theorem t_X6_judge (l : Launch) (ad : Nat → Nat) (D : va_G) (cs : Nat → ClassId) (h : Nat → Nat) (σ : Nat → Nat → Int32) (pre post : va_W) (n y : Nat) (o : Int32) (hN : σ 0 0 = nI n) (hn : n ≤ 8) (hY : σ 14 0 = nI y) (hy0 : y ≤ 10) : CTi l yX6_judge cX6_judge 4 .int ({ frames := 6, cells := 0, slots := 0, locals := 135 }) ad D (tysW cs) (pre ++ (wM cs h σ ++ post)) [.ref (h 0), .int o] (gateI (oneB n o) (jdF (jdB n (σ 0) (σ 13) o.toNatClampNeg) 0 y) (-1)) (pre ++ (wM cs h (su σ 2 (gateF (oneB n o) (σ 0) (σ 2))) ++ post)) := by
  refine CTi.of (lv0 := [(0, .ref (h 0)), (1, .int o)]) (by decide) rfl (Nat.le_of_ble_eq_true rfl) (fun p e s m args below meth c A C hr hlk => ?_)
  have C : Cx p s m args c cX6_judge 4 RX6 ad D (tysW cs) A := C
  refine r_aload_n (pc := 0) C 0 dX6_judge_0 rfl rfl ?_
  refine r_iload_n (pc := 1) C 1 dX6_judge_1 rfl rfl ?_
  refine rc_Vi (pc := 2) C (t_X6_isOne' l ad D cs h σ pre post (σ 0) (rfl) n o hN hn) mv_X6_isOne ml_RX6_168 rfl ⟨Nat.le_of_ble_eq_true rfl, Nat.le_of_ble_eq_true rfl⟩ ⟨rfl, rfl⟩ (q0 := 0) rfl rfl rfl rfl rfl rfl (Nat.le_of_ble_eq_true rfl) dX6_judge_2 ?_
  refine r_if_ne (pc := 5) C 10 dX6_judge_5 (by decide) (fun c_1 => ?_) (fun c_1 => ?_)
  · skip
    have c_1 := bI_n.mp c_1
    obtain ⟨j, h_j, rfl⟩ := one_nat (by omega) c_1
    have e_j : (nI j).toNatClampNeg = j := nI_clamp (by omega)
    refine r_aload_n (pc := 10) C 0 dX6_judge_10 rfl rfl ?_
    refine mg_s (pc := 11) C fl_RX6_7 dX6_judge_11 ?_
    refine r_aload_n (pc := 14) C 0 dX6_judge_14 rfl rfl ?_
    refine mg_aside (pc := 15) C fl_RX6_16 dX6_judge_15 ?_
    refine rc_Sv (pc := 18) C (t_X6_copyRow_0_2' l ad D cs h σ pre post (σ 0) (rfl)  ) ms_X6_copyRow ml_RX6_134 rfl ⟨Nat.le_of_ble_eq_true rfl, Nat.le_of_ble_eq_true rfl⟩ ⟨rfl, rfl⟩ rfl rfl rfl (Nat.le_of_ble_eq_true rfl) dX6_judge_18 ?_
    refine r_iconst (pc := 21) C 0 dX6_judge_21 (by decide) ?_
    refine r_istore_n (pc := 22) C [(2, .int 0), (0, .ref (h 0)), (1, .int (nI j))] dX6_judge_22 rfl (by decide) rfl ?_
    refine r_iconst (pc := 23) C 1 dX6_judge_23 (by decide) ?_
    refine r_istore_n (pc := 24) C [(3, .int 1), (2, .int 0), (0, .ref (h 0)), (1, .int (nI j))] dX6_judge_24 rfl (by decide) rfl ?_
    refine r_pick (lv' := [(0, .ref (h 0)), (1, .int (nI j)), (2, .int 0), (3, .int 1)]) [2, 3, 1, 0] rfl ?_
    refine r_blk (blk' := wM cs h (su (su σ 0 (daysF n (σ 0) 0)) 2 (σ 0))) (rfl) ?_
    refine r_loop (blkf := fun i => wM cs h (su (su σ 0 (daysF n (σ 0) i)) 2 (σ 0))) (lvf := fun i => [(0, .ref (h 0)), (1, .int (nI j)), (2, .int (nI i)), (3, .int 1)]) (fun i => jdF (jdB n (σ 0) (σ 13) j) 0 y = jdF (jdB n (σ 0) (σ 13) j) i (y - i)) y 0 (by omega) (rfl) (fun i h_i hx ih => ?_)
    show VX p l e _ s m args below meth c _ D A 4 pre (wM cs h (su (su σ 0 (daysF n (σ 0) i)) 2 (σ 0))) post 25 [(0, .ref (h 0)), (1, .int (nI j)), (2, .int (nI i)), (3, .int 1)] []
    refine r_iload_n (pc := 25) C 2 dX6_judge_25 rfl rfl ?_
    refine r_aload_n (pc := 26) C 0 dX6_judge_26 rfl rfl ?_
    refine mg_rowN (pc := 27) C fl_RX6_141 dX6_judge_27 (σ 14 0) (congrFun (((su_nn (by decide)).trans (su_nn (by decide)))) 0) ?_
    refine r_eqi (y := nI y) (hY) ?_
    refine r_icmp_ge (pc := 30) C 106 dX6_judge_30 (by decide) (fun c_2 => ?_) (fun c_2 => ?_)
    · skip
      have c_2 := nIc_ge_t (a := i) (b := y) (by omega) (by omega) c_2
      obtain rfl : y = i := by omega
      refine r_aload_n (pc := 106) C 0 dX6_judge_106 rfl rfl ?_
      refine mg_aside (pc := 107) C fl_RX6_16 dX6_judge_107 ?_
      refine r_aload_n (pc := 110) C 0 dX6_judge_110 rfl rfl ?_
      refine mg_s (pc := 111) C fl_RX6_7 dX6_judge_111 ?_
      refine rc_Sv (pc := 114) C (t_X6_copyRow_2_0' l ad D cs h (su (su σ 0 (daysF n (σ 0) y)) 2 (σ 0)) pre post (σ 0) (su_at)  ) ms_X6_copyRow ml_RX6_134 rfl ⟨Nat.le_of_ble_eq_true rfl, Nat.le_of_ble_eq_true rfl⟩ ⟨rfl, rfl⟩ rfl rfl rfl (Nat.le_of_ble_eq_true rfl) dX6_judge_114 ?_
      refine r_blk (blk' := wM cs h (su σ 2 (σ 0))) (congrArg (wM cs h) (by rw [su_cm (k := 2) (j := 0) (by decide), su_su (k := 0), su_id (k := 0) (rfl)])) ?_
      refine r_iload_n (pc := 117) C 3 dX6_judge_117 rfl rfl ?_
      refine r_if_eq (pc := 118) C 125 dX6_judge_118 (by decide) (fun c_3 => ?_) (fun c_3 => ?_)
      · skip
        revert c_3; intro c_3
        exact absurd c_3 (by decide)
      · skip
        revert c_3; intro c_3
        refine r_iconst (pc := 121) C 0 dX6_judge_121 (by decide) ?_
        refine r_goto (pc := 122) C 126 dX6_judge_122 (by decide) ?_
        exact r_iret (pc := 126) C hr hlk dX6_judge_126 rfl (by rw [gateI_t (by simp [*]), e_j, hx]; exact jd_end.symm) (by rw [show (gateF (oneB n (nI j)) (σ 0) (σ 2) : Nat → Int32) = σ 0 from (by first | rfl | (simp [gateI, gateF, *]; done) | simp_all [gateI, gateF])] <;> rfl)
    · skip
      have c_2 := nIc_ge_f (a := i) (b := y) (by omega) (by omega) c_2
      refine r_iload_n (pc := 33) C 3 dX6_judge_33 rfl rfl ?_
      refine r_if_eq (pc := 34) C 106 dX6_judge_34 (by decide) (fun c_4 => ?_) (fun c_4 => ?_)
      · skip
        revert c_4; intro c_4
        exact absurd c_4 (by decide)
      · skip
        revert c_4; intro c_4
        refine r_aload_n (pc := 37) C 0 dX6_judge_37 rfl rfl ?_
        refine rc_Vv (pc := 38) C (t_X6_goesOn' l ad D cs h (su (su σ 0 (daysF n (σ 0) i)) 2 (σ 0)) pre post (daysF n (σ 0) i) ((su_nn (by decide)).trans su_at) n (daysF_0 hN) hn) mv_X6_goesOn ml_RX6_196 rfl ⟨Nat.le_of_ble_eq_true rfl, Nat.le_of_ble_eq_true rfl⟩ ⟨rfl, rfl⟩ (q0 := 0) rfl rfl rfl rfl rfl rfl (Nat.le_of_ble_eq_true rfl) dX6_judge_38 ?_
        refine r_blk (blk' := wM cs h (su (su σ 0 (dayF n (daysF n (σ 0) i))) 2 (σ 0))) (congrArg (wM cs h) (by rw [su_cm (k := 2) (j := 0) (by decide), su_su (k := 0)])) ?_
        have f_5 : dayF n (daysF n (σ 0) i) 0 = nI n := dayF_0 (daysF_0 hN)
        refine r_aload_n (pc := 41) C 0 dX6_judge_41 rfl rfl ?_
        refine mg_rows (pc := 42) C fl_RX6_28 dX6_judge_42 ?_
        refine r_iconst (pc := 45) C 3 dX6_judge_45 (by decide) ?_
        refine r_iload_n (pc := 46) C 2 dX6_judge_46 rfl rfl ?_
        refine r_imul (pc := 47) C dX6_judge_47 ?_
        refine r_eqi (y := nI (3 * i)) (pk_mul 3 i) ?_
        refine al_rows (pc := 48) C (3 * i) (rfl) (by omega) dX6_judge_48 (σ 13 (3 * i)) (congrFun (((su_nn (by decide)).trans (su_nn (by decide)))) _) ?_
        refine r_aload_n (pc := 49) C 0 dX6_judge_49 rfl rfl ?_
        refine r_iload_n (pc := 50) C 1 dX6_judge_50 rfl rfl ?_
        refine r_iconst (pc := 51) C 3 dX6_judge_51 (by decide) ?_
        refine rc_Vi (pc := 52) C (t_X6_its' l ad D cs h (su (su σ 0 (dayF n (daysF n (σ 0) i))) 2 (σ 0)) pre post (dayF n (daysF n (σ 0) i)) ((su_nn (by decide)).trans su_at) j 3 (by omega) (by omega)) mv_X6_its ml_RX6_156 rfl ⟨Nat.le_of_ble_eq_true rfl, Nat.le_of_ble_eq_true rfl⟩ ⟨rfl, rfl⟩ (q0 := 0) rfl rfl rfl rfl rfl rfl (Nat.le_of_ble_eq_true rfl) dX6_judge_52 ?_
        refine r_icmp_ne (pc := 55) C 98 dX6_judge_55 (by decide) (fun c_6 => ?_) (fun c_6 => ?_)
        · skip
          refine r_iconst (pc := 98) C 0 dX6_judge_98 (by decide) ?_
          refine r_istore_n (pc := 99) C [(3, .int 0), (0, .ref (h 0)), (1, .int (nI j)), (2, .int (nI i))] dX6_judge_99 rfl (by decide) rfl ?_
          refine r_iinc (pc := 100) C (nI (i + 1)) 3 [(2, .int (nI (i + 1))), (3, .int 0), (0, .ref (h 0)), (1, .int (nI j))] dX6_judge_100 rfl (nI_1 _) (by decide) rfl ?_
          refine r_goto (pc := 103) C 25 dX6_judge_103 (by decide) ?_
          refine r_iload_n (pc := 25) C 0 dX6_judge_25 rfl rfl ?_
          refine r_aload_n (pc := 26) C 2 dX6_judge_26 rfl rfl ?_
          refine mg_rowN (pc := 27) C fl_RX6_141 dX6_judge_27 (σ 14 0) (congrFun (((su_nn (by decide)).trans (su_nn (by decide)))) 0) ?_
          refine r_eqi (y := nI y) (hY) ?_
          refine r_icmp_ge (pc := 30) C 106 dX6_judge_30 (by decide) (fun c_7 => ?_) (fun c_7 => ?_)
          · skip
            have c_7 := nIc_ge_t (a := (i + 1)) (b := y) (by omega) (by omega) c_7
            refine r_aload_n (pc := 106) C 2 dX6_judge_106 rfl rfl ?_
            refine mg_aside (pc := 107) C fl_RX6_16 dX6_judge_107 ?_
            refine r_aload_n (pc := 110) C 2 dX6_judge_110 rfl rfl ?_
            refine mg_s (pc := 111) C fl_RX6_7 dX6_judge_111 ?_
            refine rc_Sv (pc := 114) C (t_X6_copyRow_2_0' l ad D cs h (su (su σ 0 (dayF n (daysF n (σ 0) i))) 2 (σ 0)) pre post (σ 0) (su_at)  ) ms_X6_copyRow ml_RX6_134 rfl ⟨Nat.le_of_ble_eq_true rfl, Nat.le_of_ble_eq_true rfl⟩ ⟨rfl, rfl⟩ rfl rfl rfl (Nat.le_of_ble_eq_true rfl) dX6_judge_114 ?_
            refine r_blk (blk' := wM cs h (su σ 2 (σ 0))) (congrArg (wM cs h) (by rw [su_cm (k := 2) (j := 0) (by decide), su_su (k := 0), su_id (k := 0) (rfl)])) ?_
            refine r_iload_n (pc := 117) C 1 dX6_judge_117 rfl rfl ?_
            refine r_if_eq (pc := 118) C 125 dX6_judge_118 (by decide) (fun c_8 => ?_) (fun c_8 => ?_)
            · skip
              revert c_8; intro c_8
              refine r_iload_n (pc := 125) C 0 dX6_judge_125 rfl rfl ?_
              exact r_iret (pc := 126) C hr hlk dX6_judge_126 rfl (by rw [gateI_t (by simp [*]), e_j, hx]; exact (jd_hit (by omega) (by simp_all [jdB, daysF])).symm) (by rw [show (gateF (oneB n (nI j)) (σ 0) (σ 2) : Nat → Int32) = σ 0 from (by first | rfl | (simp [gateI, gateF, *]; done) | simp_all [gateI, gateF])] <;> rfl)
            · skip
              revert c_8; intro c_8
              exact absurd c_8 (by decide)
          · skip
            have c_7 := nIc_ge_f (a := (i + 1)) (b := y) (by omega) (by omega) c_7
            refine r_iload_n (pc := 33) C 1 dX6_judge_33 rfl rfl ?_
            refine r_if_eq (pc := 34) C 106 dX6_judge_34 (by decide) (fun c_9 => ?_) (fun c_9 => ?_)
            · skip
              revert c_9; intro c_9
              refine r_aload_n (pc := 106) C 2 dX6_judge_106 rfl rfl ?_
              refine mg_aside (pc := 107) C fl_RX6_16 dX6_judge_107 ?_
              refine r_aload_n (pc := 110) C 2 dX6_judge_110 rfl rfl ?_
              refine mg_s (pc := 111) C fl_RX6_7 dX6_judge_111 ?_
              refine rc_Sv (pc := 114) C (t_X6_copyRow_2_0' l ad D cs h (su (su σ 0 (dayF n (daysF n (σ 0) i))) 2 (σ 0)) pre post (σ 0) (su_at)  ) ms_X6_copyRow ml_RX6_134 rfl ⟨Nat.le_of_ble_eq_true rfl, Nat.le_of_ble_eq_true rfl⟩ ⟨rfl, rfl⟩ rfl rfl rfl (Nat.le_of_ble_eq_true rfl) dX6_judge_114 ?_
              refine r_blk (blk' := wM cs h (su σ 2 (σ 0))) (congrArg (wM cs h) (by rw [su_cm (k := 2) (j := 0) (by decide), su_su (k := 0), su_id (k := 0) (rfl)])) ?_
              refine r_iload_n (pc := 117) C 1 dX6_judge_117 rfl rfl ?_
              refine r_if_eq (pc := 118) C 125 dX6_judge_118 (by decide) (fun c_10 => ?_) (fun c_10 => ?_)
              · skip
                revert c_10; intro c_10
                refine r_iload_n (pc := 125) C 0 dX6_judge_125 rfl rfl ?_
                exact r_iret (pc := 126) C hr hlk dX6_judge_126 rfl (by rw [gateI_t (by simp [*]), e_j, hx]; exact (jd_hit (by omega) (by simp_all [jdB, daysF])).symm) (by rw [show (gateF (oneB n (nI j)) (σ 0) (σ 2) : Nat → Int32) = σ 0 from (by first | rfl | (simp [gateI, gateF, *]; done) | simp_all [gateI, gateF])] <;> rfl)
              · skip
                revert c_10; intro c_10
                exact absurd c_10 (by decide)
            · skip
              revert c_9; intro c_9
              exact absurd c_9 (by decide)
        · skip
          refine r_aload_n (pc := 58) C 0 dX6_judge_58 rfl rfl ?_
          refine mg_rows (pc := 59) C fl_RX6_28 dX6_judge_59 ?_
          refine r_iconst (pc := 62) C 3 dX6_judge_62 (by decide) ?_
          refine r_iload_n (pc := 63) C 2 dX6_judge_63 rfl rfl ?_
          refine r_imul (pc := 64) C dX6_judge_64 ?_
          refine r_eqi (y := nI (3 * i)) (pk_mul 3 i) ?_
          refine r_iconst (pc := 65) C 1 dX6_judge_65 (by decide) ?_
          refine r_iadd (pc := 66) C dX6_judge_66 ?_
          refine r_eqi (y := nI (3 * i + 1)) (nI_add (3 * i) 1) ?_
          refine al_rows (pc := 67) C (3 * i + 1) (rfl) (by omega) dX6_judge_67 (σ 13 (3 * i + 1)) (congrFun (((su_nn (by decide)).trans (su_nn (by decide)))) _) ?_
          refine r_aload_n (pc := 68) C 0 dX6_judge_68 rfl rfl ?_
          refine r_iload_n (pc := 69) C 1 dX6_judge_69 rfl rfl ?_
          refine r_iconst (pc := 70) C 4 dX6_judge_70 (by decide) ?_
          refine rc_Vi (pc := 71) C (t_X6_its' l ad D cs h (su (su σ 0 (dayF n (daysF n (σ 0) i))) 2 (σ 0)) pre post (dayF n (daysF n (σ 0) i)) ((su_nn (by decide)).trans su_at) j 4 (by omega) (by omega)) mv_X6_its ml_RX6_156 rfl ⟨Nat.le_of_ble_eq_true rfl, Nat.le_of_ble_eq_true rfl⟩ ⟨rfl, rfl⟩ (q0 := 0) rfl rfl rfl rfl rfl rfl (Nat.le_of_ble_eq_true rfl) dX6_judge_71 ?_
          refine r_icmp_ne (pc := 74) C 98 dX6_judge_74 (by decide) (fun c_11 => ?_) (fun c_11 => ?_)
          · skip
            refine r_iconst (pc := 98) C 0 dX6_judge_98 (by decide) ?_
            refine r_istore_n (pc := 99) C [(3, .int 0), (0, .ref (h 0)), (1, .int (nI j)), (2, .int (nI i))] dX6_judge_99 rfl (by decide) rfl ?_
            refine r_iinc (pc := 100) C (nI (i + 1)) 3 [(2, .int (nI (i + 1))), (3, .int 0), (0, .ref (h 0)), (1, .int (nI j))] dX6_judge_100 rfl (nI_1 _) (by decide) rfl ?_
            refine r_goto (pc := 103) C 25 dX6_judge_103 (by decide) ?_
            refine r_iload_n (pc := 25) C 0 dX6_judge_25 rfl rfl ?_
            refine r_aload_n (pc := 26) C 2 dX6_judge_26 rfl rfl ?_
            refine mg_rowN (pc := 27) C fl_RX6_141 dX6_judge_27 (σ 14 0) (congrFun (((su_nn (by decide)).trans (su_nn (by decide)))) 0) ?_
            refine r_eqi (y := nI y) (hY) ?_
            refine r_icmp_ge (pc := 30) C 106 dX6_judge_30 (by decide) (fun c_12 => ?_) (fun c_12 => ?_)
            · skip
              have c_12 := nIc_ge_t (a := (i + 1)) (b := y) (by omega) (by omega) c_12
              refine r_aload_n (pc := 106) C 2 dX6_judge_106 rfl rfl ?_
              refine mg_aside (pc := 107) C fl_RX6_16 dX6_judge_107 ?_
              refine r_aload_n (pc := 110) C 2 dX6_judge_110 rfl rfl ?_
              refine mg_s (pc := 111) C fl_RX6_7 dX6_judge_111 ?_
              refine rc_Sv (pc := 114) C (t_X6_copyRow_2_0' l ad D cs h (su (su σ 0 (dayF n (daysF n (σ 0) i))) 2 (σ 0)) pre post (σ 0) (su_at)  ) ms_X6_copyRow ml_RX6_134 rfl ⟨Nat.le_of_ble_eq_true rfl, Nat.le_of_ble_eq_true rfl⟩ ⟨rfl, rfl⟩ rfl rfl rfl (Nat.le_of_ble_eq_true rfl) dX6_judge_114 ?_
              refine r_blk (blk' := wM cs h (su σ 2 (σ 0))) (congrArg (wM cs h) (by rw [su_cm (k := 2) (j := 0) (by decide), su_su (k := 0), su_id (k := 0) (rfl)])) ?_
              refine r_iload_n (pc := 117) C 1 dX6_judge_117 rfl rfl ?_
              refine r_if_eq (pc := 118) C 125 dX6_judge_118 (by decide) (fun c_13 => ?_) (fun c_13 => ?_)
              · skip
                revert c_13; intro c_13
                refine r_iload_n (pc := 125) C 0 dX6_judge_125 rfl rfl ?_
                exact r_iret (pc := 126) C hr hlk dX6_judge_126 rfl (by rw [gateI_t (by simp [*]), e_j, hx]; exact (jd_hit (by omega) (by simp_all [jdB, daysF])).symm) (by rw [show (gateF (oneB n (nI j)) (σ 0) (σ 2) : Nat → Int32) = σ 0 from (by first | rfl | (simp [gateI, gateF, *]; done) | simp_all [gateI, gateF])] <;> rfl)
              · skip
                revert c_13; intro c_13
                exact absurd c_13 (by decide)
            · skip
              have c_12 := nIc_ge_f (a := (i + 1)) (b := y) (by omega) (by omega) c_12
              refine r_iload_n (pc := 33) C 1 dX6_judge_33 rfl rfl ?_
              refine r_if_eq (pc := 34) C 106 dX6_judge_34 (by decide) (fun c_14 => ?_) (fun c_14 => ?_)
              · skip
                revert c_14; intro c_14
                refine r_aload_n (pc := 106) C 2 dX6_judge_106 rfl rfl ?_
                refine mg_aside (pc := 107) C fl_RX6_16 dX6_judge_107 ?_
                refine r_aload_n (pc := 110) C 2 dX6_judge_110 rfl rfl ?_
                refine mg_s (pc := 111) C fl_RX6_7 dX6_judge_111 ?_
                refine rc_Sv (pc := 114) C (t_X6_copyRow_2_0' l ad D cs h (su (su σ 0 (dayF n (daysF n (σ 0) i))) 2 (σ 0)) pre post (σ 0) (su_at)  ) ms_X6_copyRow ml_RX6_134 rfl ⟨Nat.le_of_ble_eq_true rfl, Nat.le_of_ble_eq_true rfl⟩ ⟨rfl, rfl⟩ rfl rfl rfl (Nat.le_of_ble_eq_true rfl) dX6_judge_114 ?_
                refine r_blk (blk' := wM cs h (su σ 2 (σ 0))) (congrArg (wM cs h) (by rw [su_cm (k := 2) (j := 0) (by decide), su_su (k := 0), su_id (k := 0) (rfl)])) ?_
                refine r_iload_n (pc := 117) C 1 dX6_judge_117 rfl rfl ?_
                refine r_if_eq (pc := 118) C 125 dX6_judge_118 (by decide) (fun c_15 => ?_) (fun c_15 => ?_)
                · skip
                  revert c_15; intro c_15
                  refine r_iload_n (pc := 125) C 0 dX6_judge_125 rfl rfl ?_
                  exact r_iret (pc := 126) C hr hlk dX6_judge_126 rfl (by rw [gateI_t (by simp [*]), e_j, hx]; exact (jd_hit (by omega) (by simp_all [jdB, daysF])).symm) (by rw [show (gateF (oneB n (nI j)) (σ 0) (σ 2) : Nat → Int32) = σ 0 from (by first | rfl | (simp [gateI, gateF, *]; done) | simp_all [gateI, gateF])] <;> rfl)
                · skip
                  revert c_15; intro c_15
                  exact absurd c_15 (by decide)
              · skip
                revert c_14; intro c_14
                exact absurd c_14 (by decide)
          · skip
            refine r_aload_n (pc := 77) C 0 dX6_judge_77 rfl rfl ?_
            refine mg_rows (pc := 78) C fl_RX6_28 dX6_judge_78 ?_
            refine r_iconst (pc := 81) C 3 dX6_judge_81 (by decide) ?_
            refine r_iload_n (pc := 82) C 2 dX6_judge_82 rfl rfl ?_
            refine r_imul (pc := 83) C dX6_judge_83 ?_
            refine r_eqi (y := nI (3 * i)) (pk_mul 3 i) ?_
            refine r_iconst (pc := 84) C 2 dX6_judge_84 (by decide) ?_
            refine r_iadd (pc := 85) C dX6_judge_85 ?_
            refine r_eqi (y := nI (3 * i + 2)) (nI_add (3 * i) 2) ?_
            refine al_rows (pc := 86) C (3 * i + 2) (rfl) (by omega) dX6_judge_86 (σ 13 (3 * i + 2)) (congrFun (((su_nn (by decide)).trans (su_nn (by decide)))) _) ?_
            refine r_aload_n (pc := 87) C 0 dX6_judge_87 rfl rfl ?_
            refine rc_Vi (pc := 88) C (t_X6_onSteps' l ad D cs h (su (su σ 0 (dayF n (daysF n (σ 0) i))) 2 (σ 0)) pre post (dayF n (daysF n (σ 0) i)) ((su_nn (by decide)).trans su_at) n f_5 hn) mv_X6_onSteps ml_RX6_222 rfl ⟨Nat.le_of_ble_eq_true rfl, Nat.le_of_ble_eq_true rfl⟩ ⟨rfl, rfl⟩ (q0 := 0) rfl rfl rfl rfl rfl rfl (Nat.le_of_ble_eq_true rfl) dX6_judge_88 ?_
            refine r_icmp_ne (pc := 91) C 98 dX6_judge_91 (by decide) (fun c_16 => ?_) (fun c_16 => ?_)
            · skip
              refine r_iconst (pc := 98) C 0 dX6_judge_98 (by decide) ?_
              refine r_istore_n (pc := 99) C [(3, .int 0), (0, .ref (h 0)), (1, .int (nI j)), (2, .int (nI i))] dX6_judge_99 rfl (by decide) rfl ?_
              refine r_iinc (pc := 100) C (nI (i + 1)) 3 [(2, .int (nI (i + 1))), (3, .int 0), (0, .ref (h 0)), (1, .int (nI j))] dX6_judge_100 rfl (nI_1 _) (by decide) rfl ?_
              refine r_goto (pc := 103) C 25 dX6_judge_103 (by decide) ?_
              refine r_iload_n (pc := 25) C 0 dX6_judge_25 rfl rfl ?_
              refine r_aload_n (pc := 26) C 2 dX6_judge_26 rfl rfl ?_
              refine mg_rowN (pc := 27) C fl_RX6_141 dX6_judge_27 (σ 14 0) (congrFun (((su_nn (by decide)).trans (su_nn (by decide)))) 0) ?_
              refine r_eqi (y := nI y) (hY) ?_
              refine r_icmp_ge (pc := 30) C 106 dX6_judge_30 (by decide) (fun c_17 => ?_) (fun c_17 => ?_)
              · skip
                have c_17 := nIc_ge_t (a := (i + 1)) (b := y) (by omega) (by omega) c_17
                refine r_aload_n (pc := 106) C 2 dX6_judge_106 rfl rfl ?_
                refine mg_aside (pc := 107) C fl_RX6_16 dX6_judge_107 ?_
                refine r_aload_n (pc := 110) C 2 dX6_judge_110 rfl rfl ?_
                refine mg_s (pc := 111) C fl_RX6_7 dX6_judge_111 ?_
                refine rc_Sv (pc := 114) C (t_X6_copyRow_2_0' l ad D cs h (su (su σ 0 (dayF n (daysF n (σ 0) i))) 2 (σ 0)) pre post (σ 0) (su_at)  ) ms_X6_copyRow ml_RX6_134 rfl ⟨Nat.le_of_ble_eq_true rfl, Nat.le_of_ble_eq_true rfl⟩ ⟨rfl, rfl⟩ rfl rfl rfl (Nat.le_of_ble_eq_true rfl) dX6_judge_114 ?_
                refine r_blk (blk' := wM cs h (su σ 2 (σ 0))) (congrArg (wM cs h) (by rw [su_cm (k := 2) (j := 0) (by decide), su_su (k := 0), su_id (k := 0) (rfl)])) ?_
                refine r_iload_n (pc := 117) C 1 dX6_judge_117 rfl rfl ?_
                refine r_if_eq (pc := 118) C 125 dX6_judge_118 (by decide) (fun c_18 => ?_) (fun c_18 => ?_)
                · skip
                  revert c_18; intro c_18
                  refine r_iload_n (pc := 125) C 0 dX6_judge_125 rfl rfl ?_
                  exact r_iret (pc := 126) C hr hlk dX6_judge_126 rfl (by rw [gateI_t (by simp [*]), e_j, hx]; exact (jd_hit (by omega) (by simp_all [jdB, daysF])).symm) (by rw [show (gateF (oneB n (nI j)) (σ 0) (σ 2) : Nat → Int32) = σ 0 from (by first | rfl | (simp [gateI, gateF, *]; done) | simp_all [gateI, gateF])] <;> rfl)
                · skip
                  revert c_18; intro c_18
                  exact absurd c_18 (by decide)
              · skip
                have c_17 := nIc_ge_f (a := (i + 1)) (b := y) (by omega) (by omega) c_17
                refine r_iload_n (pc := 33) C 1 dX6_judge_33 rfl rfl ?_
                refine r_if_eq (pc := 34) C 106 dX6_judge_34 (by decide) (fun c_19 => ?_) (fun c_19 => ?_)
                · skip
                  revert c_19; intro c_19
                  refine r_aload_n (pc := 106) C 2 dX6_judge_106 rfl rfl ?_
                  refine mg_aside (pc := 107) C fl_RX6_16 dX6_judge_107 ?_
                  refine r_aload_n (pc := 110) C 2 dX6_judge_110 rfl rfl ?_
                  refine mg_s (pc := 111) C fl_RX6_7 dX6_judge_111 ?_
                  refine rc_Sv (pc := 114) C (t_X6_copyRow_2_0' l ad D cs h (su (su σ 0 (dayF n (daysF n (σ 0) i))) 2 (σ 0)) pre post (σ 0) (su_at)  ) ms_X6_copyRow ml_RX6_134 rfl ⟨Nat.le_of_ble_eq_true rfl, Nat.le_of_ble_eq_true rfl⟩ ⟨rfl, rfl⟩ rfl rfl rfl (Nat.le_of_ble_eq_true rfl) dX6_judge_114 ?_
                  refine r_blk (blk' := wM cs h (su σ 2 (σ 0))) (congrArg (wM cs h) (by rw [su_cm (k := 2) (j := 0) (by decide), su_su (k := 0), su_id (k := 0) (rfl)])) ?_
                  refine r_iload_n (pc := 117) C 1 dX6_judge_117 rfl rfl ?_
                  refine r_if_eq (pc := 118) C 125 dX6_judge_118 (by decide) (fun c_20 => ?_) (fun c_20 => ?_)
                  · skip
                    revert c_20; intro c_20
                    refine r_iload_n (pc := 125) C 0 dX6_judge_125 rfl rfl ?_
                    exact r_iret (pc := 126) C hr hlk dX6_judge_126 rfl (by rw [gateI_t (by simp [*]), e_j, hx]; exact (jd_hit (by omega) (by simp_all [jdB, daysF])).symm) (by rw [show (gateF (oneB n (nI j)) (σ 0) (σ 2) : Nat → Int32) = σ 0 from (by first | rfl | (simp [gateI, gateF, *]; done) | simp_all [gateI, gateF])] <;> rfl)
                  · skip
                    revert c_20; intro c_20
                    exact absurd c_20 (by decide)
                · skip
                  revert c_19; intro c_19
                  exact absurd c_19 (by decide)
            · skip
              refine r_iconst (pc := 94) C 1 dX6_judge_94 (by decide) ?_
              refine r_goto (pc := 95) C 99 dX6_judge_95 (by decide) ?_
              refine r_istore_n (pc := 99) C [(3, .int 1), (0, .ref (h 0)), (1, .int (nI j)), (2, .int (nI i))] dX6_judge_99 rfl (by decide) rfl ?_
              refine r_iinc (pc := 100) C (nI (i + 1)) 3 [(2, .int (nI (i + 1))), (3, .int 1), (0, .ref (h 0)), (1, .int (nI j))] dX6_judge_100 rfl (nI_1 _) (by decide) rfl ?_
              refine r_goto (pc := 103) C 25 dX6_judge_103 (by decide) ?_
              refine r_pick (lv' := [(0, .ref (h 0)), (1, .int (nI j)), (2, .int (nI (i + 1))), (3, .int 1)]) [2, 3, 0, 1] rfl ?_
              refine r_blk (blk' := wM cs h (su (su σ 0 (daysF n (σ 0) (i + 1))) 2 (σ 0))) (rfl) ?_
              exact ih (by omega) (hx.trans (jd_next (by omega) (by simp_all [jdB, daysF])))
  · skip
    have c_1 := bI_0.mp c_1
    refine r_iconst (pc := 8) C (-1) dX6_judge_8 (by decide) ?_
    exact r_iret (pc := 9) C hr hlk dX6_judge_9 rfl (by simp [gateI, *]) (by rw [show (gateF (oneB n o) (σ 0) (σ 2) : Nat → Int32) = σ 2 from (by first | rfl | (simp [gateI, gateF, *]; done) | simp_all [gateI, gateF])] <;> rfl)
theorem t_X6_judge' (l : Launch) (ad : Nat → Nat) (D : va_G) (cs : Nat → ClassId) (h : Nat → Nat) (σ : Nat → Nat → Int32) (pre post : va_W) (f0_ : Nat → Int32) (e0_ : σ 0 = f0_) (f2_ : Nat → Int32) (e2_ : σ 2 = f2_) (f13_ : Nat → Int32) (e13_ : σ 13 = f13_) (f14_ : Nat → Int32) (e14_ : σ 14 = f14_) (n y : Nat) (o : Int32) (hN : f0_ 0 = nI n) (hn : n ≤ 8) (hY : f14_ 0 = nI y) (hy0 : y ≤ 10) : CTi l yX6_judge cX6_judge 4 .int ({ frames := 6, cells := 0, slots := 0, locals := 135 }) ad D (tysW cs) (pre ++ (wM cs h σ ++ post)) [.ref (h 0), .int o] (gateI (oneB n o) (jdF (jdB n f0_ (f13_) o.toNatClampNeg) 0 y) (-1)) (pre ++ (wM cs h (su σ 2 (gateF (oneB n o) f0_ (f2_))) ++ post)) := by
  subst e0_; subst e2_; subst e13_; subst e14_
  exact t_X6_judge l ad D cs h σ pre post n y o hN hn hY hy0
theorem dX6_lacks_0 : decode cX6_lacks 0 = .ok (.aload_n 0, 1) := by decide +kernel
theorem dX6_lacks_1 : decode cX6_lacks 1 = .ok (.getfield 31, 3) := by decide +kernel
theorem dX6_lacks_4 : decode cX6_lacks 4 = .ok (.iload_n 1, 1) := by decide +kernel
theorem dX6_lacks_5 : decode cX6_lacks 5 = .ok (.iaload, 1) := by decide +kernel
theorem dX6_lacks_6 : decode cX6_lacks 6 = .ok (.ifCond .ge 8, 3) := by decide +kernel
theorem dX6_lacks_9 : decode cX6_lacks 9 = .ok (.bipush (-11), 2) := by decide +kernel
theorem dX6_lacks_11 : decode cX6_lacks 11 = .ok (.goto 19, 3) := by decide +kernel
theorem dX6_lacks_14 : decode cX6_lacks 14 = .ok (.aload_n 0, 1) := by decide +kernel
theorem dX6_lacks_15 : decode cX6_lacks 15 = .ok (.getfield 31, 3) := by decide +kernel
theorem dX6_lacks_18 : decode cX6_lacks 18 = .ok (.iload_n 1, 1) := by decide +kernel
theorem dX6_lacks_19 : decode cX6_lacks 19 = .ok (.iaload, 1) := by decide +kernel
theorem dX6_lacks_20 : decode cX6_lacks 20 = .ok (.iload_n 2, 1) := by decide +kernel
theorem dX6_lacks_21 : decode cX6_lacks 21 = .ok (.if_icmp .eq 8, 3) := by decide +kernel
theorem dX6_lacks_24 : decode cX6_lacks 24 = .ok (.bipush (-13), 2) := by decide +kernel
theorem dX6_lacks_26 : decode cX6_lacks 26 = .ok (.goto 4, 3) := by decide +kernel
theorem dX6_lacks_29 : decode cX6_lacks 29 = .ok (.iconst 0, 1) := by decide +kernel
theorem dX6_lacks_30 : decode cX6_lacks 30 = .ok (.ireturn, 1) := by decide +kernel
set_option maxHeartbeats 400000 in
set_option maxRecDepth 20000 in
theorem t_X6_lacks (l : Launch) (ad : Nat → Nat) (D : va_G) (cs : Nat → ClassId) (h : Nat → Nat) (σ : Nat → Nat → Int32) (pre post : va_W) (g : Nat) (x : Int32) (hg : g < 4) : CTi l yX6_lacks cX6_lacks 3 .int ({ frames := 0, cells := 0, slots := 0, locals := 0 }) ad D (tysW cs) (pre ++ (wM cs h σ ++ post)) [.ref (h 0), .int (nI g), .int x] (lkF (σ 15) g x) (pre ++ (wM cs h σ ++ post)) := by
  refine CTi.of (lv0 := [(0, .ref (h 0)), (1, .int (nI g)), (2, .int x)]) (by decide) rfl (Nat.le_of_ble_eq_true rfl) (fun p e s m args below meth c A C hr hlk => ?_)
  have C : Cx p s m args c cX6_lacks 3 RX6 ad D (tysW cs) A := C
  refine r_aload_n (pc := 0) C 0 dX6_lacks_0 rfl rfl ?_
  refine mg_sortOf (pc := 1) C fl_RX6_31 dX6_lacks_1 ?_
  refine r_iload_n (pc := 4) C 1 dX6_lacks_4 rfl rfl ?_
  refine al_sortOf (pc := 5) C g (rfl) (by omega) dX6_lacks_5 (σ 15 g) rfl ?_
  refine r_if_ge (pc := 6) C 14 dX6_lacks_6 (by decide) (fun c_1 => ?_) (fun c_1 => ?_)
  · skip
    refine r_aload_n (pc := 14) C 0 dX6_lacks_14 rfl rfl ?_
    refine mg_sortOf (pc := 15) C fl_RX6_31 dX6_lacks_15 ?_
    refine r_iload_n (pc := 18) C 1 dX6_lacks_18 rfl rfl ?_
    refine al_sortOf (pc := 19) C g (rfl) (by omega) dX6_lacks_19 (σ 15 g) rfl ?_
    refine r_iload_n (pc := 20) C 2 dX6_lacks_20 rfl rfl ?_
    refine r_icmp_eq (pc := 21) C 29 dX6_lacks_21 (by decide) (fun c_2 => ?_) (fun c_2 => ?_)
    · skip
      refine r_iconst (pc := 29) C 0 dX6_lacks_29 (by decide) ?_
      exact r_iret (pc := 30) C hr hlk dX6_lacks_30 rfl (by first | (simp [lkF, *]; done) | simp_all [lkF]) rfl
    · skip
      refine r_bipush (pc := 24) C (-13) dX6_lacks_24 (by decide) ?_
      refine r_goto (pc := 26) C 30 dX6_lacks_26 (by decide) ?_
      exact r_iret (pc := 30) C hr hlk dX6_lacks_30 rfl (by first | (simp [lkF, *]; done) | simp_all [lkF]) rfl
  · skip
    refine r_bipush (pc := 9) C (-11) dX6_lacks_9 (by decide) ?_
    refine r_goto (pc := 11) C 30 dX6_lacks_11 (by decide) ?_
    exact r_iret (pc := 30) C hr hlk dX6_lacks_30 rfl (by first | (simp [lkF, *]; done) | simp_all [lkF]) rfl
theorem t_X6_lacks' (l : Launch) (ad : Nat → Nat) (D : va_G) (cs : Nat → ClassId) (h : Nat → Nat) (σ : Nat → Nat → Int32) (pre post : va_W) (f15_ : Nat → Int32) (e15_ : σ 15 = f15_) (g : Nat) (x : Int32) (hg : g < 4) : CTi l yX6_lacks cX6_lacks 3 .int ({ frames := 0, cells := 0, slots := 0, locals := 0 }) ad D (tysW cs) (pre ++ (wM cs h σ ++ post)) [.ref (h 0), .int (nI g), .int x] (lkF (f15_) g x) (pre ++ (wM cs h σ ++ post)) := by
  subst e15_
  exact t_X6_lacks l ad D cs h σ pre post g x hg
theorem dX6_put_0 : decode cX6_put 0 = .ok (.iload_n 1, 1) := by decide +kernel
theorem dX6_put_1 : decode cX6_put 1 = .ok (.invokestatic 246, 3) := by decide +kernel
theorem dX6_put_4 : decode cX6_put 4 = .ok (.ifCond .ne 5, 3) := by decide +kernel
theorem dX6_put_7 : decode cX6_put 7 = .ok (.iconst (-1), 1) := by decide +kernel
theorem dX6_put_8 : decode cX6_put 8 = .ok (.ireturn, 1) := by decide +kernel
theorem dX6_put_9 : decode cX6_put 9 = .ok (.aload_n 0, 1) := by decide +kernel
theorem dX6_put_10 : decode cX6_put 10 = .ok (.getfield 31, 3) := by decide +kernel
theorem dX6_put_13 : decode cX6_put 13 = .ok (.iload_n 1, 1) := by decide +kernel
theorem dX6_put_14 : decode cX6_put 14 = .ok (.iaload, 1) := by decide +kernel
theorem dX6_put_15 : decode cX6_put 15 = .ok (.ifCond .ge 6, 3) := by decide +kernel
theorem dX6_put_18 : decode cX6_put 18 = .ok (.bipush (-11), 2) := by decide +kernel
theorem dX6_put_20 : decode cX6_put 20 = .ok (.ireturn, 1) := by decide +kernel
theorem dX6_put_21 : decode cX6_put 21 = .ok (.iload_n 2, 1) := by decide +kernel
theorem dX6_put_22 : decode cX6_put 22 = .ok (.i2l, 1) := by decide +kernel
theorem dX6_put_23 : decode cX6_put 23 = .ok (.lconst 0, 1) := by decide +kernel
theorem dX6_put_24 : decode cX6_put 24 = .ok (.aload_n 0, 1) := by decide +kernel
theorem dX6_put_25 : decode cX6_put 25 = .ok (.getfield 34, 3) := by decide +kernel
theorem dX6_put_28 : decode cX6_put 28 = .ok (.iload_n 1, 1) := by decide +kernel
theorem dX6_put_29 : decode cX6_put 29 = .ok (.iaload, 1) := by decide +kernel
theorem dX6_put_30 : decode cX6_put 30 = .ok (.iconst 1, 1) := by decide +kernel
theorem dX6_put_31 : decode cX6_put 31 = .ok (.isub, 1) := by decide +kernel
theorem dX6_put_32 : decode cX6_put 32 = .ok (.i2l, 1) := by decide +kernel
theorem dX6_put_33 : decode cX6_put 33 = .ok (.invokestatic 57, 3) := by decide +kernel
theorem dX6_put_36 : decode cX6_put 36 = .ok (.ifCond .ne 6, 3) := by decide +kernel
theorem dX6_put_39 : decode cX6_put 39 = .ok (.bipush (-12), 2) := by decide +kernel
theorem dX6_put_41 : decode cX6_put 41 = .ok (.ireturn, 1) := by decide +kernel
theorem dX6_put_42 : decode cX6_put 42 = .ok (.aload_n 0, 1) := by decide +kernel
theorem dX6_put_43 : decode cX6_put 43 = .ok (.getfield 37, 3) := by decide +kernel
theorem dX6_put_46 : decode cX6_put 46 = .ok (.bipush 40, 2) := by decide +kernel
theorem dX6_put_48 : decode cX6_put 48 = .ok (.iload_n 1, 1) := by decide +kernel
theorem dX6_put_49 : decode cX6_put 49 = .ok (.imul, 1) := by decide +kernel
theorem dX6_put_50 : decode cX6_put 50 = .ok (.iload_n 2, 1) := by decide +kernel
theorem dX6_put_51 : decode cX6_put 51 = .ok (.iadd, 1) := by decide +kernel
theorem dX6_put_52 : decode cX6_put 52 = .ok (.aload_n 0, 1) := by decide +kernel
theorem dX6_put_53 : decode cX6_put 53 = .ok (.getfield 31, 3) := by decide +kernel
theorem dX6_put_56 : decode cX6_put 56 = .ok (.iload_n 1, 1) := by decide +kernel
theorem dX6_put_57 : decode cX6_put 57 = .ok (.iaload, 1) := by decide +kernel
theorem dX6_put_58 : decode cX6_put 58 = .ok (.ifCond .ne 8, 3) := by decide +kernel
theorem dX6_put_61 : decode cX6_put 61 = .ok (.iload_n 3, 1) := by decide +kernel
theorem dX6_put_62 : decode cX6_put 62 = .ok (.i2b, 1) := by decide +kernel
theorem dX6_put_63 : decode cX6_put 63 = .ok (.goto 19, 3) := by decide +kernel
theorem dX6_put_66 : decode cX6_put 66 = .ok (.aload_n 0, 1) := by decide +kernel
theorem dX6_put_67 : decode cX6_put 67 = .ok (.getfield 31, 3) := by decide +kernel
theorem dX6_put_70 : decode cX6_put 70 = .ok (.iload_n 1, 1) := by decide +kernel
theorem dX6_put_71 : decode cX6_put 71 = .ok (.iaload, 1) := by decide +kernel
theorem dX6_put_72 : decode cX6_put 72 = .ok (.iconst 1, 1) := by decide +kernel
theorem dX6_put_73 : decode cX6_put 73 = .ok (.if_icmp .ne 8, 3) := by decide +kernel
theorem dX6_put_76 : decode cX6_put 76 = .ok (.iload_n 3, 1) := by decide +kernel
theorem dX6_put_77 : decode cX6_put 77 = .ok (.i2s, 1) := by decide +kernel
theorem dX6_put_78 : decode cX6_put 78 = .ok (.goto 4, 3) := by decide +kernel
theorem dX6_put_81 : decode cX6_put 81 = .ok (.iload_n 3, 1) := by decide +kernel
theorem dX6_put_82 : decode cX6_put 82 = .ok (.iastore, 1) := by decide +kernel
theorem dX6_put_83 : decode cX6_put 83 = .ok (.iconst 1, 1) := by decide +kernel
theorem dX6_put_84 : decode cX6_put 84 = .ok (.ireturn, 1) := by decide +kernel
set_option maxHeartbeats 400000 in
set_option maxRecDepth 20000 in
theorem t_X6_put (l : Launch) (ad : Nat → Nat) (D : va_G) (cs : Nat → ClassId) (h : Nat → Nat) (σ : Nat → Nat → Int32) (pre post : va_W) (n : Nat) (g i v : Int32) (hN : σ 0 0 = nI n) (hn : n ≤ 8) (hz : ∀ t : Nat, t < 4 → ∃ z : Nat, z ≤ 40 ∧ σ 16 t = nI z) : CTi l yX6_put cX6_put 4 .int ({ frames := 2, cells := 0, slots := 0, locals := 45 }) ad D (tysW cs) (pre ++ (wM cs h σ ++ post)) [.ref (h 0), .int g, .int i, .int v] (gateI (inB g 0 3) (if 0 ≤ σ 15 g.toNatClampNeg then gateI (inB i 0 (σ 16 g.toNatClampNeg - 1)) 1 (-12) else -11) (-1)) (pre ++ (wM cs h (su σ 17 (gateF (inB g 0 3 && (decide (0 ≤ σ 15 g.toNatClampNeg) && inB i 0 (σ 16 g.toNatClampNeg - 1))) (upd (σ 17) (40 * g.toNatClampNeg + i.toNatClampNeg) (narF (σ 15 g.toNatClampNeg) v)) (σ 17))) ++ post)) := by
  refine CTi.of (lv0 := [(0, .ref (h 0)), (1, .int g), (2, .int i), (3, .int v)]) (by decide) rfl (Nat.le_of_ble_eq_true rfl) (fun p e s m args below meth c A C hr hlk => ?_)
  have C : Cx p s m args c cX6_put 4 RX6 ad D (tysW cs) A := C
  refine r_iload_n (pc := 0) C 1 dX6_put_0 rfl rfl ?_
  refine rc_Si (pc := 1) C (t_X6_isSheet l ad D (tysW cs) (wM cs h σ) pre post  g ) ms_X6_isSheet ml_RX6_246 rfl ⟨Nat.le_of_ble_eq_true rfl, Nat.le_of_ble_eq_true rfl⟩ ⟨rfl, rfl⟩ rfl rfl rfl (Nat.le_of_ble_eq_true rfl) dX6_put_1 ?_
  refine r_if_ne (pc := 4) C 9 dX6_put_4 (by decide) (fun c_1 => ?_) (fun c_1 => ?_)
  · skip
    have c_1 := bI_n.mp c_1
    obtain ⟨f, l_f, h_f, rfl⟩ := rng_nat 0 3 (by decide) (by decide) c_1
    have e_f : (nI f).toNatClampNeg = f := nI_clamp (by omega)
    refine r_aload_n (pc := 9) C 0 dX6_put_9 rfl rfl ?_
    refine mg_sortOf (pc := 10) C fl_RX6_31 dX6_put_10 ?_
    refine r_iload_n (pc := 13) C 1 dX6_put_13 rfl rfl ?_
    refine al_sortOf (pc := 14) C f (rfl) (by omega) dX6_put_14 (σ 15 f) rfl ?_
    refine r_if_ge (pc := 15) C 21 dX6_put_15 (by decide) (fun c_2 => ?_) (fun c_2 => ?_)
    · skip
      refine r_iload_n (pc := 21) C 2 dX6_put_21 rfl rfl ?_
      refine r_i2l (pc := 22) C dX6_put_22 ?_
      refine r_lconst (pc := 23) C 0 dX6_put_23 (by decide) ?_
      obtain ⟨z, hz1, hz2⟩ := hz f (by omega)
      have e_z : (nI z).toNatClampNeg = z := nI_clamp (by omega)
      refine r_aload_n (pc := 24) C 0 dX6_put_24 rfl rfl ?_
      refine mg_sizeOf (pc := 25) C fl_RX6_34 dX6_put_25 ?_
      refine r_iload_n (pc := 28) C 1 dX6_put_28 rfl rfl ?_
      refine al_sizeOf (pc := 29) C f (rfl) (by omega) dX6_put_29 (σ 16 f) rfl ?_
      refine r_eqi (y := nI z) (hz2) ?_
      refine r_iconst (pc := 30) C 1 dX6_put_30 (by decide) ?_
      refine r_isub (pc := 31) C dX6_put_31 ?_
      refine r_i2l (pc := 32) C dX6_put_32 ?_
      refine rc_Si (pc := 33) C (t_X6_isIn l ad D (tysW cs) (wM cs h σ) pre post  i (0 : Int32) ((nI z) - 1) ) ms_X6_isIn ml_RX6_57 rfl ⟨Nat.le_of_ble_eq_true rfl, Nat.le_of_ble_eq_true rfl⟩ ⟨rfl, rfl⟩ rfl rfl rfl (Nat.le_of_ble_eq_true rfl) dX6_put_33 ?_
      refine r_if_ne (pc := 36) C 42 dX6_put_36 (by decide) (fun c_3 => ?_) (fun c_3 => ?_)
      · skip
        have c_3 := bI_n.mp c_3
        obtain ⟨u, h_u, rfl⟩ := rng_pred z (by omega) c_3
        have e_u : (nI u).toNatClampNeg = u := nI_clamp (by omega)
        refine r_aload_n (pc := 42) C 0 dX6_put_42 rfl rfl ?_
        refine mg_numbers (pc := 43) C fl_RX6_37 dX6_put_43 ?_
        refine r_bipush (pc := 46) C 40 dX6_put_46 (by decide) ?_
        refine r_iload_n (pc := 48) C 1 dX6_put_48 rfl rfl ?_
        refine r_imul (pc := 49) C dX6_put_49 ?_
        refine r_eqi (y := nI (40 * f)) (pk_mul 40 f) ?_
        refine r_iload_n (pc := 50) C 2 dX6_put_50 rfl rfl ?_
        refine r_iadd (pc := 51) C dX6_put_51 ?_
        refine r_eqi (y := nI (40 * f + u)) (nI_add (40 * f) u) ?_
        refine r_aload_n (pc := 52) C 0 dX6_put_52 rfl rfl ?_
        refine mg_sortOf (pc := 53) C fl_RX6_31 dX6_put_53 ?_
        refine r_iload_n (pc := 56) C 1 dX6_put_56 rfl rfl ?_
        refine al_sortOf (pc := 57) C f (rfl) (by omega) dX6_put_57 (σ 15 f) rfl ?_
        refine r_if_ne (pc := 58) C 66 dX6_put_58 (by decide) (fun c_4 => ?_) (fun c_4 => ?_)
        · skip
          refine r_aload_n (pc := 66) C 0 dX6_put_66 rfl rfl ?_
          refine mg_sortOf (pc := 67) C fl_RX6_31 dX6_put_67 ?_
          refine r_iload_n (pc := 70) C 1 dX6_put_70 rfl rfl ?_
          refine al_sortOf (pc := 71) C f (rfl) (by omega) dX6_put_71 (σ 15 f) rfl ?_
          refine r_iconst (pc := 72) C 1 dX6_put_72 (by decide) ?_
          refine r_icmp_ne (pc := 73) C 81 dX6_put_73 (by decide) (fun c_5 => ?_) (fun c_5 => ?_)
          · skip
            refine r_iload_n (pc := 81) C 3 dX6_put_81 rfl rfl ?_
            refine as_numbers (pc := 82) C (40 * f + u) (rfl) (by omega) dX6_put_82 (σ 17) (rfl) ?_
            refine r_iconst (pc := 83) C 1 dX6_put_83 (by decide) ?_
            exact r_iret (pc := 84) C hr hlk dX6_put_84 rfl (by first | rfl | (simp [gateI, gateF, narF, *]; done) | simp_all [gateI, gateF, narF]) (by rw [show (gateF (inB (nI f) 0 3 && (decide (0 ≤ σ 15 (nI f).toNatClampNeg) && inB (nI u) 0 (σ 16 (nI f).toNatClampNeg - 1))) (upd (σ 17) (40 * (nI f).toNatClampNeg + (nI u).toNatClampNeg) (narF (σ 15 (nI f).toNatClampNeg) v)) (σ 17) : Nat → Int32) = upd (σ 17) (40 * f + u) v from (by first | rfl | (simp [gateI, gateF, narF, *]; done) | simp_all [gateI, gateF, narF])] <;> rfl)
          · skip
            refine r_iload_n (pc := 76) C 3 dX6_put_76 rfl rfl ?_
            refine r_i2s (pc := 77) C dX6_put_77 ?_
            refine r_goto (pc := 78) C 82 dX6_put_78 (by decide) ?_
            refine as_numbers (pc := 82) C (40 * f + u) (rfl) (by omega) dX6_put_82 (σ 17) (rfl) ?_
            refine r_iconst (pc := 83) C 1 dX6_put_83 (by decide) ?_
            exact r_iret (pc := 84) C hr hlk dX6_put_84 rfl (by first | rfl | (simp [gateI, gateF, narF, *]; done) | simp_all [gateI, gateF, narF]) (by rw [show (gateF (inB (nI f) 0 3 && (decide (0 ≤ σ 15 (nI f).toNatClampNeg) && inB (nI u) 0 (σ 16 (nI f).toNatClampNeg - 1))) (upd (σ 17) (40 * (nI f).toNatClampNeg + (nI u).toNatClampNeg) (narF (σ 15 (nI f).toNatClampNeg) v)) (σ 17) : Nat → Int32) = upd (σ 17) (40 * f + u) v.toInt16.toInt32 from (by first | rfl | (simp [gateI, gateF, narF, *]; done) | simp_all [gateI, gateF, narF])] <;> rfl)
        · skip
          refine r_iload_n (pc := 61) C 3 dX6_put_61 rfl rfl ?_
          refine r_i2b (pc := 62) C dX6_put_62 ?_
          refine r_goto (pc := 63) C 82 dX6_put_63 (by decide) ?_
          refine as_numbers (pc := 82) C (40 * f + u) (rfl) (by omega) dX6_put_82 (σ 17) (rfl) ?_
          refine r_iconst (pc := 83) C 1 dX6_put_83 (by decide) ?_
          exact r_iret (pc := 84) C hr hlk dX6_put_84 rfl (by first | rfl | (simp [gateI, gateF, narF, *]; done) | simp_all [gateI, gateF, narF]) (by rw [show (gateF (inB (nI f) 0 3 && (decide (0 ≤ σ 15 (nI f).toNatClampNeg) && inB (nI u) 0 (σ 16 (nI f).toNatClampNeg - 1))) (upd (σ 17) (40 * (nI f).toNatClampNeg + (nI u).toNatClampNeg) (narF (σ 15 (nI f).toNatClampNeg) v)) (σ 17) : Nat → Int32) = upd (σ 17) (40 * f + u) v.toInt8.toInt32 from (by first | rfl | (simp [gateI, gateF, narF, *]; done) | simp_all [gateI, gateF, narF])] <;> rfl)
      · skip
        have c_3 := bI_0.mp c_3
        refine r_bipush (pc := 39) C (-12) dX6_put_39 (by decide) ?_
        exact r_iret (pc := 41) C hr hlk dX6_put_41 rfl (by first | rfl | (simp [gateI, gateF, narF, *]; done) | simp_all [gateI, gateF, narF]) (by rw [show (gateF (inB (nI f) 0 3 && (decide (0 ≤ σ 15 (nI f).toNatClampNeg) && inB i 0 (σ 16 (nI f).toNatClampNeg - 1))) (upd (σ 17) (40 * (nI f).toNatClampNeg + i.toNatClampNeg) (narF (σ 15 (nI f).toNatClampNeg) v)) (σ 17) : Nat → Int32) = σ 17 from (by first | rfl | (simp [gateI, gateF, narF, *]; done) | simp_all [gateI, gateF, narF])] <;> rfl)
    · skip
      refine r_bipush (pc := 18) C (-11) dX6_put_18 (by decide) ?_
      exact r_iret (pc := 20) C hr hlk dX6_put_20 rfl (by first | rfl | (simp [gateI, gateF, narF, *]; done) | simp_all [gateI, gateF, narF]) (by rw [show (gateF (inB (nI f) 0 3 && (decide (0 ≤ σ 15 (nI f).toNatClampNeg) && inB i 0 (σ 16 (nI f).toNatClampNeg - 1))) (upd (σ 17) (40 * (nI f).toNatClampNeg + i.toNatClampNeg) (narF (σ 15 (nI f).toNatClampNeg) v)) (σ 17) : Nat → Int32) = σ 17 from (by first | rfl | (simp [gateI, gateF, narF, *]; done) | simp_all [gateI, gateF, narF])] <;> rfl)
  · skip
    have c_1 := bI_0.mp c_1
    refine r_iconst (pc := 7) C (-1) dX6_put_7 (by decide) ?_
    exact r_iret (pc := 8) C hr hlk dX6_put_8 rfl (by first | rfl | (simp [gateI, gateF, narF, *]; done) | simp_all [gateI, gateF, narF]) (by rw [show (gateF (inB g 0 3 && (decide (0 ≤ σ 15 g.toNatClampNeg) && inB i 0 (σ 16 g.toNatClampNeg - 1))) (upd (σ 17) (40 * g.toNatClampNeg + i.toNatClampNeg) (narF (σ 15 g.toNatClampNeg) v)) (σ 17) : Nat → Int32) = σ 17 from (by first | rfl | (simp [gateI, gateF, narF, *]; done) | simp_all [gateI, gateF, narF])] <;> rfl)
theorem t_X6_put' (l : Launch) (ad : Nat → Nat) (D : va_G) (cs : Nat → ClassId) (h : Nat → Nat) (σ : Nat → Nat → Int32) (pre post : va_W) (f0_ : Nat → Int32) (e0_ : σ 0 = f0_) (f15_ : Nat → Int32) (e15_ : σ 15 = f15_) (f16_ : Nat → Int32) (e16_ : σ 16 = f16_) (f17_ : Nat → Int32) (e17_ : σ 17 = f17_) (n : Nat) (g i v : Int32) (hN : f0_ 0 = nI n) (hn : n ≤ 8) (hz : ∀ t : Nat, t < 4 → ∃ z : Nat, z ≤ 40 ∧ f16_ t = nI z) : CTi l yX6_put cX6_put 4 .int ({ frames := 2, cells := 0, slots := 0, locals := 45 }) ad D (tysW cs) (pre ++ (wM cs h σ ++ post)) [.ref (h 0), .int g, .int i, .int v] (gateI (inB g 0 3) (if 0 ≤ f15_ g.toNatClampNeg then gateI (inB i 0 (f16_ g.toNatClampNeg - 1)) 1 (-12) else -11) (-1)) (pre ++ (wM cs h (su σ 17 (gateF (inB g 0 3 && (decide (0 ≤ f15_ g.toNatClampNeg) && inB i 0 (f16_ g.toNatClampNeg - 1))) (upd (f17_) (40 * g.toNatClampNeg + i.toNatClampNeg) (narF (f15_ g.toNatClampNeg) v)) (f17_))) ++ post)) := by
  subst e0_; subst e15_; subst e16_; subst e17_
  exact t_X6_put l ad D cs h σ pre post n g i v hN hn hz
theorem dX6_item_0 : decode cX6_item 0 = .ok (.iload_n 1, 1) := by decide +kernel
theorem dX6_item_1 : decode cX6_item 1 = .ok (.invokestatic 246, 3) := by decide +kernel
theorem dX6_item_4 : decode cX6_item 4 = .ok (.ifCond .eq 15, 3) := by decide +kernel
theorem dX6_item_7 : decode cX6_item 7 = .ok (.iload_n 2, 1) := by decide +kernel
theorem dX6_item_8 : decode cX6_item 8 = .ok (.i2l, 1) := by decide +kernel
theorem dX6_item_9 : decode cX6_item 9 = .ok (.lconst 0, 1) := by decide +kernel
theorem dX6_item_10 : decode cX6_item 10 = .ok (.ldc2_w 144, 3) := by decide +kernel
theorem dX6_item_13 : decode cX6_item 13 = .ok (.invokestatic 57, 3) := by decide +kernel
theorem dX6_item_16 : decode cX6_item 16 = .ok (.ifCond .ne 5, 3) := by decide +kernel
theorem dX6_item_19 : decode cX6_item 19 = .ok (.iconst (-1), 1) := by decide +kernel
theorem dX6_item_20 : decode cX6_item 20 = .ok (.ireturn, 1) := by decide +kernel
theorem dX6_item_21 : decode cX6_item 21 = .ok (.aload_n 0, 1) := by decide +kernel
theorem dX6_item_22 : decode cX6_item 22 = .ok (.iload_n 1, 1) := by decide +kernel
theorem dX6_item_23 : decode cX6_item 23 = .ok (.iload_n 2, 1) := by decide +kernel
theorem dX6_item_24 : decode cX6_item 24 = .ok (.invokevirtual 271, 3) := by decide +kernel
theorem dX6_item_27 : decode cX6_item 27 = .ok (.ifCond .eq 10, 3) := by decide +kernel
theorem dX6_item_30 : decode cX6_item 30 = .ok (.aload_n 0, 1) := by decide +kernel
theorem dX6_item_31 : decode cX6_item 31 = .ok (.iload_n 1, 1) := by decide +kernel
theorem dX6_item_32 : decode cX6_item 32 = .ok (.iload_n 2, 1) := by decide +kernel
theorem dX6_item_33 : decode cX6_item 33 = .ok (.invokevirtual 271, 3) := by decide +kernel
theorem dX6_item_36 : decode cX6_item 36 = .ok (.ireturn, 1) := by decide +kernel
theorem dX6_item_37 : decode cX6_item 37 = .ok (.iload_n 3, 1) := by decide +kernel
theorem dX6_item_38 : decode cX6_item 38 = .ok (.i2l, 1) := by decide +kernel
theorem dX6_item_39 : decode cX6_item 39 = .ok (.lconst 0, 1) := by decide +kernel
theorem dX6_item_40 : decode cX6_item 40 = .ok (.aload_n 0, 1) := by decide +kernel
theorem dX6_item_41 : decode cX6_item 41 = .ok (.getfield 34, 3) := by decide +kernel
theorem dX6_item_44 : decode cX6_item 44 = .ok (.iload_n 1, 1) := by decide +kernel
theorem dX6_item_45 : decode cX6_item 45 = .ok (.iaload, 1) := by decide +kernel
theorem dX6_item_46 : decode cX6_item 46 = .ok (.iconst 1, 1) := by decide +kernel
theorem dX6_item_47 : decode cX6_item 47 = .ok (.isub, 1) := by decide +kernel
theorem dX6_item_48 : decode cX6_item 48 = .ok (.i2l, 1) := by decide +kernel
theorem dX6_item_49 : decode cX6_item 49 = .ok (.invokestatic 57, 3) := by decide +kernel
theorem dX6_item_52 : decode cX6_item 52 = .ok (.ifCond .eq 17, 3) := by decide +kernel
theorem dX6_item_55 : decode cX6_item 55 = .ok (.aload_n 0, 1) := by decide +kernel
theorem dX6_item_56 : decode cX6_item 56 = .ok (.getfield 37, 3) := by decide +kernel
theorem dX6_item_59 : decode cX6_item 59 = .ok (.bipush 40, 2) := by decide +kernel
theorem dX6_item_61 : decode cX6_item 61 = .ok (.iload_n 1, 1) := by decide +kernel
theorem dX6_item_62 : decode cX6_item 62 = .ok (.imul, 1) := by decide +kernel
theorem dX6_item_63 : decode cX6_item 63 = .ok (.iload_n 3, 1) := by decide +kernel
theorem dX6_item_64 : decode cX6_item 64 = .ok (.iadd, 1) := by decide +kernel
theorem dX6_item_65 : decode cX6_item 65 = .ok (.iaload, 1) := by decide +kernel
theorem dX6_item_66 : decode cX6_item 66 = .ok (.goto 5, 3) := by decide +kernel
theorem dX6_item_69 : decode cX6_item 69 = .ok (.bipush (-12), 2) := by decide +kernel
theorem dX6_item_71 : decode cX6_item 71 = .ok (.ireturn, 1) := by decide +kernel
set_option maxHeartbeats 400000 in
set_option maxRecDepth 20000 in
theorem t_X6_item (l : Launch) (ad : Nat → Nat) (D : va_G) (cs : Nat → ClassId) (h : Nat → Nat) (σ : Nat → Nat → Int32) (pre post : va_W) (n : Nat) (g x i : Int32) (hN : σ 0 0 = nI n) (hn : n ≤ 8) (hz : ∀ t : Nat, t < 4 → ∃ z : Nat, z ≤ 40 ∧ σ 16 t = nI z) : CTi l yX6_item cX6_item 4 .int ({ frames := 2, cells := 0, slots := 0, locals := 45 }) ad D (tysW cs) (pre ++ (wM cs h σ ++ post)) [.ref (h 0), .int g, .int x, .int i] (gateI (inB g 0 3 && inB x 0 3) (if lkF (σ 15) g.toNatClampNeg x = 0 then gateI (inB i 0 (σ 16 g.toNatClampNeg - 1)) (σ 17 (40 * g.toNatClampNeg + i.toNatClampNeg)) (-12) else lkF (σ 15) g.toNatClampNeg x) (-1)) (pre ++ (wM cs h σ ++ post)) := by
  refine CTi.of (lv0 := [(0, .ref (h 0)), (1, .int g), (2, .int x), (3, .int i)]) (by decide) rfl (Nat.le_of_ble_eq_true rfl) (fun p e s m args below meth c A C hr hlk => ?_)
  have C : Cx p s m args c cX6_item 4 RX6 ad D (tysW cs) A := C
  refine r_iload_n (pc := 0) C 1 dX6_item_0 rfl rfl ?_
  refine rc_Si (pc := 1) C (t_X6_isSheet l ad D (tysW cs) (wM cs h σ) pre post  g ) ms_X6_isSheet ml_RX6_246 rfl ⟨Nat.le_of_ble_eq_true rfl, Nat.le_of_ble_eq_true rfl⟩ ⟨rfl, rfl⟩ rfl rfl rfl (Nat.le_of_ble_eq_true rfl) dX6_item_1 ?_
  refine r_if_eq (pc := 4) C 19 dX6_item_4 (by decide) (fun c_1 => ?_) (fun c_1 => ?_)
  · skip
    have c_1 := bI_0.mp c_1
    refine r_iconst (pc := 19) C (-1) dX6_item_19 (by decide) ?_
    exact r_iret (pc := 20) C hr hlk dX6_item_20 rfl (by first | rfl | (simp [gateI, gateF, *]; done) | simp_all [gateI, gateF]) rfl
  · skip
    have c_1 := bI_n.mp c_1
    obtain ⟨f, l_f, h_f, rfl⟩ := rng_nat 0 3 (by decide) (by decide) c_1
    have e_f : (nI f).toNatClampNeg = f := nI_clamp (by omega)
    refine r_iload_n (pc := 7) C 2 dX6_item_7 rfl rfl ?_
    refine r_i2l (pc := 8) C dX6_item_8 ?_
    refine r_lconst (pc := 9) C 0 dX6_item_9 (by decide) ?_
    refine r_ldc2 (pc := 10) C dX6_item_10 cn_RX6_144 ?_
    refine rc_Si (pc := 13) C (t_X6_isIn l ad D (tysW cs) (wM cs h σ) pre post  x (0 : Int32) (3 : Int32) ) ms_X6_isIn ml_RX6_57 rfl ⟨Nat.le_of_ble_eq_true rfl, Nat.le_of_ble_eq_true rfl⟩ ⟨rfl, rfl⟩ rfl rfl rfl (Nat.le_of_ble_eq_true rfl) dX6_item_13 ?_
    refine r_if_ne (pc := 16) C 21 dX6_item_16 (by decide) (fun c_2 => ?_) (fun c_2 => ?_)
    · skip
      have c_2 := bI_n.mp c_2
      refine r_aload_n (pc := 21) C 0 dX6_item_21 rfl rfl ?_
      refine r_iload_n (pc := 22) C 1 dX6_item_22 rfl rfl ?_
      refine r_iload_n (pc := 23) C 2 dX6_item_23 rfl rfl ?_
      refine rc_Vi (pc := 24) C (t_X6_lacks' l ad D cs h σ pre post (σ 15) (rfl) f x (by omega)) mv_X6_lacks ml_RX6_271 rfl ⟨Nat.le_of_ble_eq_true rfl, Nat.le_of_ble_eq_true rfl⟩ ⟨rfl, rfl⟩ (q0 := 0) rfl rfl rfl rfl rfl rfl (Nat.le_of_ble_eq_true rfl) dX6_item_24 ?_
      refine r_if_eq (pc := 27) C 37 dX6_item_27 (by decide) (fun c_3 => ?_) (fun c_3 => ?_)
      · skip
        refine r_iload_n (pc := 37) C 3 dX6_item_37 rfl rfl ?_
        refine r_i2l (pc := 38) C dX6_item_38 ?_
        refine r_lconst (pc := 39) C 0 dX6_item_39 (by decide) ?_
        obtain ⟨z, hz1, hz2⟩ := hz f (by omega)
        have e_z : (nI z).toNatClampNeg = z := nI_clamp (by omega)
        refine r_aload_n (pc := 40) C 0 dX6_item_40 rfl rfl ?_
        refine mg_sizeOf (pc := 41) C fl_RX6_34 dX6_item_41 ?_
        refine r_iload_n (pc := 44) C 1 dX6_item_44 rfl rfl ?_
        refine al_sizeOf (pc := 45) C f (rfl) (by omega) dX6_item_45 (σ 16 f) rfl ?_
        refine r_eqi (y := nI z) (hz2) ?_
        refine r_iconst (pc := 46) C 1 dX6_item_46 (by decide) ?_
        refine r_isub (pc := 47) C dX6_item_47 ?_
        refine r_i2l (pc := 48) C dX6_item_48 ?_
        refine rc_Si (pc := 49) C (t_X6_isIn l ad D (tysW cs) (wM cs h σ) pre post  i (0 : Int32) ((nI z) - 1) ) ms_X6_isIn ml_RX6_57 rfl ⟨Nat.le_of_ble_eq_true rfl, Nat.le_of_ble_eq_true rfl⟩ ⟨rfl, rfl⟩ rfl rfl rfl (Nat.le_of_ble_eq_true rfl) dX6_item_49 ?_
        refine r_if_eq (pc := 52) C 69 dX6_item_52 (by decide) (fun c_4 => ?_) (fun c_4 => ?_)
        · skip
          have c_4 := bI_0.mp c_4
          refine r_bipush (pc := 69) C (-12) dX6_item_69 (by decide) ?_
          exact r_iret (pc := 71) C hr hlk dX6_item_71 rfl (by first | rfl | (simp [gateI, gateF, *]; done) | simp_all [gateI, gateF]) rfl
        · skip
          have c_4 := bI_n.mp c_4
          obtain ⟨u, h_u, rfl⟩ := rng_pred z (by omega) c_4
          have e_u : (nI u).toNatClampNeg = u := nI_clamp (by omega)
          refine r_aload_n (pc := 55) C 0 dX6_item_55 rfl rfl ?_
          refine mg_numbers (pc := 56) C fl_RX6_37 dX6_item_56 ?_
          refine r_bipush (pc := 59) C 40 dX6_item_59 (by decide) ?_
          refine r_iload_n (pc := 61) C 1 dX6_item_61 rfl rfl ?_
          refine r_imul (pc := 62) C dX6_item_62 ?_
          refine r_eqi (y := nI (40 * f)) (pk_mul 40 f) ?_
          refine r_iload_n (pc := 63) C 3 dX6_item_63 rfl rfl ?_
          refine r_iadd (pc := 64) C dX6_item_64 ?_
          refine r_eqi (y := nI (40 * f + u)) (nI_add (40 * f) u) ?_
          refine al_numbers (pc := 65) C (40 * f + u) (rfl) (by omega) dX6_item_65 (σ 17 (40 * f + u)) rfl ?_
          refine r_goto (pc := 66) C 71 dX6_item_66 (by decide) ?_
          exact r_iret (pc := 71) C hr hlk dX6_item_71 rfl (by first | rfl | (simp [gateI, gateF, *]; done) | simp_all [gateI, gateF]) rfl
      · skip
        refine r_aload_n (pc := 30) C 0 dX6_item_30 rfl rfl ?_
        refine r_iload_n (pc := 31) C 1 dX6_item_31 rfl rfl ?_
        refine r_iload_n (pc := 32) C 2 dX6_item_32 rfl rfl ?_
        refine rc_Vi (pc := 33) C (t_X6_lacks' l ad D cs h σ pre post (σ 15) (rfl) f x (by omega)) mv_X6_lacks ml_RX6_271 rfl ⟨Nat.le_of_ble_eq_true rfl, Nat.le_of_ble_eq_true rfl⟩ ⟨rfl, rfl⟩ (q0 := 0) rfl rfl rfl rfl rfl rfl (Nat.le_of_ble_eq_true rfl) dX6_item_33 ?_
        exact r_iret (pc := 36) C hr hlk dX6_item_36 rfl (by first | rfl | (simp [gateI, gateF, *]; done) | simp_all [gateI, gateF]) rfl
    · skip
      have c_2 := bI_0.mp c_2
      refine r_iconst (pc := 19) C (-1) dX6_item_19 (by decide) ?_
      exact r_iret (pc := 20) C hr hlk dX6_item_20 rfl (by first | rfl | (simp [gateI, gateF, *]; done) | simp_all [gateI, gateF]) rfl
theorem t_X6_item' (l : Launch) (ad : Nat → Nat) (D : va_G) (cs : Nat → ClassId) (h : Nat → Nat) (σ : Nat → Nat → Int32) (pre post : va_W) (f0_ : Nat → Int32) (e0_ : σ 0 = f0_) (f15_ : Nat → Int32) (e15_ : σ 15 = f15_) (f16_ : Nat → Int32) (e16_ : σ 16 = f16_) (f17_ : Nat → Int32) (e17_ : σ 17 = f17_) (n : Nat) (g x i : Int32) (hN : f0_ 0 = nI n) (hn : n ≤ 8) (hz : ∀ t : Nat, t < 4 → ∃ z : Nat, z ≤ 40 ∧ f16_ t = nI z) : CTi l yX6_item cX6_item 4 .int ({ frames := 2, cells := 0, slots := 0, locals := 45 }) ad D (tysW cs) (pre ++ (wM cs h σ ++ post)) [.ref (h 0), .int g, .int x, .int i] (gateI (inB g 0 3 && inB x 0 3) (if lkF (f15_) g.toNatClampNeg x = 0 then gateI (inB i 0 (f16_ g.toNatClampNeg - 1)) (f17_ (40 * g.toNatClampNeg + i.toNatClampNeg)) (-12) else lkF (f15_) g.toNatClampNeg x) (-1)) (pre ++ (wM cs h σ ++ post)) := by
  subst e0_; subst e15_; subst e16_; subst e17_
  exact t_X6_item l ad D cs h σ pre post n g x i hN hn hz
theorem dX6_minds_0 : decode cX6_minds 0 = .ok (.iload_n 1, 1) := by decide +kernel
theorem dX6_minds_1 : decode cX6_minds 1 = .ok (.invokestatic 246, 3) := by decide +kernel
theorem dX6_minds_4 : decode cX6_minds 4 = .ok (.ifCond .eq 37, 3) := by decide +kernel
theorem dX6_minds_7 : decode cX6_minds 7 = .ok (.aload_n 0, 1) := by decide +kernel
theorem dX6_minds_8 : decode cX6_minds 8 = .ok (.iload_n 3, 1) := by decide +kernel
theorem dX6_minds_9 : decode cX6_minds 9 = .ok (.invokevirtual 168, 3) := by decide +kernel
theorem dX6_minds_12 : decode cX6_minds 12 = .ok (.ifCond .eq 29, 3) := by decide +kernel
theorem dX6_minds_15 : decode cX6_minds 15 = .ok (.iload 4, 2) := by decide +kernel
theorem dX6_minds_17 : decode cX6_minds 17 = .ok (.i2l, 1) := by decide +kernel
theorem dX6_minds_18 : decode cX6_minds 18 = .ok (.lconst 0, 1) := by decide +kernel
theorem dX6_minds_19 : decode cX6_minds 19 = .ok (.ldc2_w 55, 3) := by decide +kernel
theorem dX6_minds_22 : decode cX6_minds 22 = .ok (.invokestatic 57, 3) := by decide +kernel
theorem dX6_minds_25 : decode cX6_minds 25 = .ok (.ifCond .eq 16, 3) := by decide +kernel
theorem dX6_minds_28 : decode cX6_minds 28 = .ok (.iload_n 3, 1) := by decide +kernel
theorem dX6_minds_29 : decode cX6_minds 29 = .ok (.iload 4, 2) := by decide +kernel
theorem dX6_minds_31 : decode cX6_minds 31 = .ok (.iadd, 1) := by decide +kernel
theorem dX6_minds_32 : decode cX6_minds 32 = .ok (.aload_n 0, 1) := by decide +kernel
theorem dX6_minds_33 : decode cX6_minds 33 = .ok (.getfield 7, 3) := by decide +kernel
theorem dX6_minds_36 : decode cX6_minds 36 = .ok (.iconst 0, 1) := by decide +kernel
theorem dX6_minds_37 : decode cX6_minds 37 = .ok (.iaload, 1) := by decide +kernel
theorem dX6_minds_38 : decode cX6_minds 38 = .ok (.if_icmp .le 5, 3) := by decide +kernel
theorem dX6_minds_41 : decode cX6_minds 41 = .ok (.iconst (-1), 1) := by decide +kernel
theorem dX6_minds_42 : decode cX6_minds 42 = .ok (.ireturn, 1) := by decide +kernel
theorem dX6_minds_43 : decode cX6_minds 43 = .ok (.aload_n 0, 1) := by decide +kernel
theorem dX6_minds_44 : decode cX6_minds 44 = .ok (.iload_n 1, 1) := by decide +kernel
theorem dX6_minds_45 : decode cX6_minds 45 = .ok (.iconst 0, 1) := by decide +kernel
theorem dX6_minds_46 : decode cX6_minds 46 = .ok (.invokevirtual 271, 3) := by decide +kernel
theorem dX6_minds_49 : decode cX6_minds 49 = .ok (.ifCond .eq 10, 3) := by decide +kernel
theorem dX6_minds_52 : decode cX6_minds 52 = .ok (.aload_n 0, 1) := by decide +kernel
theorem dX6_minds_53 : decode cX6_minds 53 = .ok (.iload_n 1, 1) := by decide +kernel
theorem dX6_minds_54 : decode cX6_minds 54 = .ok (.iconst 0, 1) := by decide +kernel
theorem dX6_minds_55 : decode cX6_minds 55 = .ok (.invokevirtual 271, 3) := by decide +kernel
theorem dX6_minds_58 : decode cX6_minds 58 = .ok (.ireturn, 1) := by decide +kernel
theorem dX6_minds_59 : decode cX6_minds 59 = .ok (.iload_n 2, 1) := by decide +kernel
theorem dX6_minds_60 : decode cX6_minds 60 = .ok (.i2l, 1) := by decide +kernel
theorem dX6_minds_61 : decode cX6_minds 61 = .ok (.lconst 0, 1) := by decide +kernel
theorem dX6_minds_62 : decode cX6_minds 62 = .ok (.aload_n 0, 1) := by decide +kernel
theorem dX6_minds_63 : decode cX6_minds 63 = .ok (.getfield 34, 3) := by decide +kernel
theorem dX6_minds_66 : decode cX6_minds 66 = .ok (.iload_n 1, 1) := by decide +kernel
theorem dX6_minds_67 : decode cX6_minds 67 = .ok (.iaload, 1) := by decide +kernel
theorem dX6_minds_68 : decode cX6_minds 68 = .ok (.i2l, 1) := by decide +kernel
theorem dX6_minds_69 : decode cX6_minds 69 = .ok (.invokestatic 57, 3) := by decide +kernel
theorem dX6_minds_72 : decode cX6_minds 72 = .ok (.ifCond .eq 20, 3) := by decide +kernel
theorem dX6_minds_75 : decode cX6_minds 75 = .ok (.iload_n 2, 1) := by decide +kernel
theorem dX6_minds_76 : decode cX6_minds 76 = .ok (.i2l, 1) := by decide +kernel
theorem dX6_minds_77 : decode cX6_minds 77 = .ok (.iload 4, 2) := by decide +kernel
theorem dX6_minds_79 : decode cX6_minds 79 = .ok (.i2l, 1) := by decide +kernel
theorem dX6_minds_80 : decode cX6_minds 80 = .ok (.ladd, 1) := by decide +kernel
theorem dX6_minds_81 : decode cX6_minds 81 = .ok (.aload_n 0, 1) := by decide +kernel
theorem dX6_minds_82 : decode cX6_minds 82 = .ok (.getfield 34, 3) := by decide +kernel
theorem dX6_minds_85 : decode cX6_minds 85 = .ok (.iload_n 1, 1) := by decide +kernel
theorem dX6_minds_86 : decode cX6_minds 86 = .ok (.iaload, 1) := by decide +kernel
theorem dX6_minds_87 : decode cX6_minds 87 = .ok (.i2l, 1) := by decide +kernel
theorem dX6_minds_88 : decode cX6_minds 88 = .ok (.lcmp, 1) := by decide +kernel
theorem dX6_minds_89 : decode cX6_minds 89 = .ok (.ifCond .le 6, 3) := by decide +kernel
theorem dX6_minds_92 : decode cX6_minds 92 = .ok (.bipush (-12), 2) := by decide +kernel
theorem dX6_minds_94 : decode cX6_minds 94 = .ok (.ireturn, 1) := by decide +kernel
theorem dX6_minds_95 : decode cX6_minds 95 = .ok (.iconst 0, 1) := by decide +kernel
theorem dX6_minds_96 : decode cX6_minds 96 = .ok (.istore 5, 2) := by decide +kernel
theorem dX6_minds_98 : decode cX6_minds 98 = .ok (.iload 5, 2) := by decide +kernel
theorem dX6_minds_100 : decode cX6_minds 100 = .ok (.iload 4, 2) := by decide +kernel
theorem dX6_minds_102 : decode cX6_minds 102 = .ok (.if_icmp .ge 42, 3) := by decide +kernel
theorem dX6_minds_105 : decode cX6_minds 105 = .ok (.aload_n 0, 1) := by decide +kernel
theorem dX6_minds_106 : decode cX6_minds 106 = .ok (.getfield 7, 3) := by decide +kernel
theorem dX6_minds_109 : decode cX6_minds 109 = .ok (.bipush 8, 2) := by decide +kernel
theorem dX6_minds_111 : decode cX6_minds 111 = .ok (.iconst 5, 1) := by decide +kernel
theorem dX6_minds_112 : decode cX6_minds 112 = .ok (.iload_n 3, 1) := by decide +kernel
theorem dX6_minds_113 : decode cX6_minds 113 = .ok (.iload 5, 2) := by decide +kernel
theorem dX6_minds_115 : decode cX6_minds 115 = .ok (.iadd, 1) := by decide +kernel
theorem dX6_minds_116 : decode cX6_minds 116 = .ok (.imul, 1) := by decide +kernel
theorem dX6_minds_117 : decode cX6_minds 117 = .ok (.iadd, 1) := by decide +kernel
theorem dX6_minds_118 : decode cX6_minds 118 = .ok (.iconst 3, 1) := by decide +kernel
theorem dX6_minds_119 : decode cX6_minds 119 = .ok (.iadd, 1) := by decide +kernel
theorem dX6_minds_120 : decode cX6_minds 120 = .ok (.aload_n 0, 1) := by decide +kernel
theorem dX6_minds_121 : decode cX6_minds 121 = .ok (.getfield 37, 3) := by decide +kernel
theorem dX6_minds_124 : decode cX6_minds 124 = .ok (.bipush 40, 2) := by decide +kernel
theorem dX6_minds_126 : decode cX6_minds 126 = .ok (.iload_n 1, 1) := by decide +kernel
theorem dX6_minds_127 : decode cX6_minds 127 = .ok (.imul, 1) := by decide +kernel
theorem dX6_minds_128 : decode cX6_minds 128 = .ok (.iload_n 2, 1) := by decide +kernel
theorem dX6_minds_129 : decode cX6_minds 129 = .ok (.iadd, 1) := by decide +kernel
theorem dX6_minds_130 : decode cX6_minds 130 = .ok (.iload 5, 2) := by decide +kernel
theorem dX6_minds_132 : decode cX6_minds 132 = .ok (.iadd, 1) := by decide +kernel
theorem dX6_minds_133 : decode cX6_minds 133 = .ok (.iaload, 1) := by decide +kernel
theorem dX6_minds_134 : decode cX6_minds 134 = .ok (.invokestatic 193, 3) := by decide +kernel
theorem dX6_minds_137 : decode cX6_minds 137 = .ok (.iastore, 1) := by decide +kernel
theorem dX6_minds_138 : decode cX6_minds 138 = .ok (.iinc 5 1, 3) := by decide +kernel
theorem dX6_minds_141 : decode cX6_minds 141 = .ok (.goto (-43), 3) := by decide +kernel
theorem dX6_minds_144 : decode cX6_minds 144 = .ok (.iload 4, 2) := by decide +kernel
theorem dX6_minds_146 : decode cX6_minds 146 = .ok (.ireturn, 1) := by decide +kernel
set_option maxHeartbeats 400000 in
set_option maxRecDepth 20000 in
theorem t_X6_minds (l : Launch) (ad : Nat → Nat) (D : va_G) (cs : Nat → ClassId) (h : Nat → Nat) (σ : Nat → Nat → Int32) (pre post : va_W) (n : Nat) (g i o k : Int32) (hN : σ 0 0 = nI n) (hn : n ≤ 8) (hz : ∀ t : Nat, t < 4 → ∃ z : Nat, z ≤ 40 ∧ σ 16 t = nI z) : CTi l yX6_minds cX6_minds 6 .int ({ frames := 2, cells := 0, slots := 0, locals := 45 }) ad D (tysW cs) (pre ++ (wM cs h σ ++ post)) [.ref (h 0), .int g, .int i, .int o, .int k] (gateI (inB g 0 3 && (oneB n o && (inB k 0 8 && decide (o.toNatClampNeg + k.toNatClampNeg ≤ n)))) (if lkF (σ 15) g.toNatClampNeg 0 = 0 then gateI (inB i 0 (σ 16 g.toNatClampNeg) && decide (i.toNatClampNeg + k.toNatClampNeg ≤ (σ 16 g.toNatClampNeg).toNatClampNeg)) k (-12) else lkF (σ 15) g.toNatClampNeg 0) (-1)) (pre ++ (wM cs h (su σ 0 (gateF ((inB g 0 3 && (oneB n o && (inB k 0 8 && decide (o.toNatClampNeg + k.toNatClampNeg ≤ n)))) && (decide (lkF (σ 15) g.toNatClampNeg 0 = 0) && (inB i 0 (σ 16 g.toNatClampNeg) && decide (i.toNatClampNeg + k.toNatClampNeg ≤ (σ 16 g.toNatClampNeg).toNatClampNeg)))) (mdN (σ 0) (σ 17) o.toNatClampNeg (40 * g.toNatClampNeg + i.toNatClampNeg) k.toNatClampNeg) (σ 0))) ++ post)) := by
  refine CTi.of (lv0 := [(0, .ref (h 0)), (1, .int g), (2, .int i), (3, .int o), (4, .int k)]) (by decide) rfl (Nat.le_of_ble_eq_true rfl) (fun p e s m args below meth c A C hr hlk => ?_)
  have C : Cx p s m args c cX6_minds 6 RX6 ad D (tysW cs) A := C
  refine r_iload_n (pc := 0) C 1 dX6_minds_0 rfl rfl ?_
  refine rc_Si (pc := 1) C (t_X6_isSheet l ad D (tysW cs) (wM cs h σ) pre post  g ) ms_X6_isSheet ml_RX6_246 rfl ⟨Nat.le_of_ble_eq_true rfl, Nat.le_of_ble_eq_true rfl⟩ ⟨rfl, rfl⟩ rfl rfl rfl (Nat.le_of_ble_eq_true rfl) dX6_minds_1 ?_
  refine r_if_eq (pc := 4) C 41 dX6_minds_4 (by decide) (fun c_1 => ?_) (fun c_1 => ?_)
  · skip
    have c_1 := bI_0.mp c_1
    refine r_iconst (pc := 41) C (-1) dX6_minds_41 (by decide) ?_
    exact r_iret (pc := 42) C hr hlk dX6_minds_42 rfl (by first | rfl | (simp [gateI, gateF, *]; done) | simp_all [gateI, gateF]) (by rw [show (gateF ((inB g 0 3 && (oneB n o && (inB k 0 8 && decide (o.toNatClampNeg + k.toNatClampNeg ≤ n)))) && (decide (lkF (σ 15) g.toNatClampNeg 0 = 0) && (inB i 0 (σ 16 g.toNatClampNeg) && decide (i.toNatClampNeg + k.toNatClampNeg ≤ (σ 16 g.toNatClampNeg).toNatClampNeg)))) (mdN (σ 0) (σ 17) o.toNatClampNeg (40 * g.toNatClampNeg + i.toNatClampNeg) k.toNatClampNeg) (σ 0) : Nat → Int32) = σ 0 from (by first | rfl | (simp [gateI, gateF, *]; done) | simp_all [gateI, gateF])] <;> rfl)
  · skip
    have c_1 := bI_n.mp c_1
    obtain ⟨f, l_f, h_f, rfl⟩ := rng_nat 0 3 (by decide) (by decide) c_1
    have e_f : (nI f).toNatClampNeg = f := nI_clamp (by omega)
    refine r_aload_n (pc := 7) C 0 dX6_minds_7 rfl rfl ?_
    refine r_iload_n (pc := 8) C 3 dX6_minds_8 rfl rfl ?_
    refine rc_Vi (pc := 9) C (t_X6_isOne' l ad D cs h σ pre post (σ 0) (rfl) n o hN hn) mv_X6_isOne ml_RX6_168 rfl ⟨Nat.le_of_ble_eq_true rfl, Nat.le_of_ble_eq_true rfl⟩ ⟨rfl, rfl⟩ (q0 := 0) rfl rfl rfl rfl rfl rfl (Nat.le_of_ble_eq_true rfl) dX6_minds_9 ?_
    refine r_if_eq (pc := 12) C 41 dX6_minds_12 (by decide) (fun c_2 => ?_) (fun c_2 => ?_)
    · skip
      have c_2 := bI_0.mp c_2
      refine r_iconst (pc := 41) C (-1) dX6_minds_41 (by decide) ?_
      exact r_iret (pc := 42) C hr hlk dX6_minds_42 rfl (by first | rfl | (simp [gateI, gateF, *]; done) | simp_all [gateI, gateF]) (by rw [show (gateF ((inB (nI f) 0 3 && (oneB n o && (inB k 0 8 && decide (o.toNatClampNeg + k.toNatClampNeg ≤ n)))) && (decide (lkF (σ 15) (nI f).toNatClampNeg 0 = 0) && (inB i 0 (σ 16 (nI f).toNatClampNeg) && decide (i.toNatClampNeg + k.toNatClampNeg ≤ (σ 16 (nI f).toNatClampNeg).toNatClampNeg)))) (mdN (σ 0) (σ 17) o.toNatClampNeg (40 * (nI f).toNatClampNeg + i.toNatClampNeg) k.toNatClampNeg) (σ 0) : Nat → Int32) = σ 0 from (by first | rfl | (simp [gateI, gateF, *]; done) | simp_all [gateI, gateF])] <;> rfl)
    · skip
      have c_2 := bI_n.mp c_2
      obtain ⟨j, h_j, rfl⟩ := one_nat (by omega) c_2
      have e_j : (nI j).toNatClampNeg = j := nI_clamp (by omega)
      refine r_iload (pc := 15) C 4 dX6_minds_15 rfl ?_
      refine r_i2l (pc := 17) C dX6_minds_17 ?_
      refine r_lconst (pc := 18) C 0 dX6_minds_18 (by decide) ?_
      refine r_ldc2 (pc := 19) C dX6_minds_19 cn_RX6_55 ?_
      refine rc_Si (pc := 22) C (t_X6_isIn l ad D (tysW cs) (wM cs h σ) pre post  k (0 : Int32) (8 : Int32) ) ms_X6_isIn ml_RX6_57 rfl ⟨Nat.le_of_ble_eq_true rfl, Nat.le_of_ble_eq_true rfl⟩ ⟨rfl, rfl⟩ rfl rfl rfl (Nat.le_of_ble_eq_true rfl) dX6_minds_22 ?_
      refine r_if_eq (pc := 25) C 41 dX6_minds_25 (by decide) (fun c_3 => ?_) (fun c_3 => ?_)
      · skip
        have c_3 := bI_0.mp c_3
        refine r_iconst (pc := 41) C (-1) dX6_minds_41 (by decide) ?_
        exact r_iret (pc := 42) C hr hlk dX6_minds_42 rfl (by first | rfl | (simp [gateI, gateF, *]; done) | simp_all [gateI, gateF]) (by rw [show (gateF ((inB (nI f) 0 3 && (oneB n (nI j) && (inB k 0 8 && decide ((nI j).toNatClampNeg + k.toNatClampNeg ≤ n)))) && (decide (lkF (σ 15) (nI f).toNatClampNeg 0 = 0) && (inB i 0 (σ 16 (nI f).toNatClampNeg) && decide (i.toNatClampNeg + k.toNatClampNeg ≤ (σ 16 (nI f).toNatClampNeg).toNatClampNeg)))) (mdN (σ 0) (σ 17) (nI j).toNatClampNeg (40 * (nI f).toNatClampNeg + i.toNatClampNeg) k.toNatClampNeg) (σ 0) : Nat → Int32) = σ 0 from (by first | rfl | (simp [gateI, gateF, *]; done) | simp_all [gateI, gateF])] <;> rfl)
      · skip
        have c_3 := bI_n.mp c_3
        obtain ⟨t, l_t, h_t, rfl⟩ := rng_nat 0 8 (by decide) (by decide) c_3
        have e_t : (nI t).toNatClampNeg = t := nI_clamp (by omega)
        refine r_iload_n (pc := 28) C 3 dX6_minds_28 rfl rfl ?_
        refine r_iload (pc := 29) C 4 dX6_minds_29 rfl ?_
        refine r_iadd (pc := 31) C dX6_minds_31 ?_
        refine r_eqi (y := nI (j + t)) (nI_add j t) ?_
        refine r_aload_n (pc := 32) C 0 dX6_minds_32 rfl rfl ?_
        refine mg_s (pc := 33) C fl_RX6_7 dX6_minds_33 ?_
        refine r_iconst (pc := 36) C 0 dX6_minds_36 (by decide) ?_
        refine al_s (pc := 37) C 0 (rfl) (by omega) dX6_minds_37 (σ 0 0) rfl ?_
        refine r_eqi (y := nI n) (hN) ?_
        refine r_icmp_le (pc := 38) C 43 dX6_minds_38 (by decide) (fun c_4 => ?_) (fun c_4 => ?_)
        · skip
          have c_4 := nIc_le_t (a := (j + t)) (b := n) (by omega) (by omega) c_4
          refine r_aload_n (pc := 43) C 0 dX6_minds_43 rfl rfl ?_
          refine r_iload_n (pc := 44) C 1 dX6_minds_44 rfl rfl ?_
          refine r_iconst (pc := 45) C 0 dX6_minds_45 (by decide) ?_
          refine rc_Vi (pc := 46) C (t_X6_lacks' l ad D cs h σ pre post (σ 15) (rfl) f (0 : Int32) (by omega)) mv_X6_lacks ml_RX6_271 rfl ⟨Nat.le_of_ble_eq_true rfl, Nat.le_of_ble_eq_true rfl⟩ ⟨rfl, rfl⟩ (q0 := 0) rfl rfl rfl rfl rfl rfl (Nat.le_of_ble_eq_true rfl) dX6_minds_46 ?_
          refine r_if_eq (pc := 49) C 59 dX6_minds_49 (by decide) (fun c_5 => ?_) (fun c_5 => ?_)
          · skip
            refine r_iload_n (pc := 59) C 2 dX6_minds_59 rfl rfl ?_
            refine r_i2l (pc := 60) C dX6_minds_60 ?_
            refine r_lconst (pc := 61) C 0 dX6_minds_61 (by decide) ?_
            obtain ⟨z, hz1, hz2⟩ := hz f (by omega)
            have e_z : (nI z).toNatClampNeg = z := nI_clamp (by omega)
            refine r_aload_n (pc := 62) C 0 dX6_minds_62 rfl rfl ?_
            refine mg_sizeOf (pc := 63) C fl_RX6_34 dX6_minds_63 ?_
            refine r_iload_n (pc := 66) C 1 dX6_minds_66 rfl rfl ?_
            refine al_sizeOf (pc := 67) C f (rfl) (by omega) dX6_minds_67 (σ 16 f) rfl ?_
            refine r_eqi (y := nI z) (hz2) ?_
            refine r_i2l (pc := 68) C dX6_minds_68 ?_
            refine rc_Si (pc := 69) C (t_X6_isIn l ad D (tysW cs) (wM cs h σ) pre post  i (0 : Int32) (nI z) ) ms_X6_isIn ml_RX6_57 rfl ⟨Nat.le_of_ble_eq_true rfl, Nat.le_of_ble_eq_true rfl⟩ ⟨rfl, rfl⟩ rfl rfl rfl (Nat.le_of_ble_eq_true rfl) dX6_minds_69 ?_
            refine r_if_eq (pc := 72) C 92 dX6_minds_72 (by decide) (fun c_6 => ?_) (fun c_6 => ?_)
            · skip
              have c_6 := bI_0.mp c_6
              refine r_bipush (pc := 92) C (-12) dX6_minds_92 (by decide) ?_
              exact r_iret (pc := 94) C hr hlk dX6_minds_94 rfl (by first | rfl | (simp [gateI, gateF, *]; done) | simp_all [gateI, gateF]) (by rw [show (gateF ((inB (nI f) 0 3 && (oneB n (nI j) && (inB (nI t) 0 8 && decide ((nI j).toNatClampNeg + (nI t).toNatClampNeg ≤ n)))) && (decide (lkF (σ 15) (nI f).toNatClampNeg 0 = 0) && (inB i 0 (σ 16 (nI f).toNatClampNeg) && decide (i.toNatClampNeg + (nI t).toNatClampNeg ≤ (σ 16 (nI f).toNatClampNeg).toNatClampNeg)))) (mdN (σ 0) (σ 17) (nI j).toNatClampNeg (40 * (nI f).toNatClampNeg + i.toNatClampNeg) (nI t).toNatClampNeg) (σ 0) : Nat → Int32) = σ 0 from (by first | rfl | (simp [gateI, gateF, *]; done) | simp_all [gateI, gateF])] <;> rfl)
            · skip
              have c_6 := bI_n.mp c_6
              obtain ⟨u, l_u, h_u, rfl⟩ := rng_nat 0 z (by omega) (by omega) c_6
              have e_u : (nI u).toNatClampNeg = u := nI_clamp (by omega)
              refine r_iload_n (pc := 75) C 2 dX6_minds_75 rfl rfl ?_
              refine r_i2l (pc := 76) C dX6_minds_76 ?_
              refine r_iload (pc := 77) C 4 dX6_minds_77 rfl ?_
              refine r_i2l (pc := 79) C dX6_minds_79 ?_
              refine r_ladd (pc := 80) C dX6_minds_80 ?_
              refine r_eql (y := (nI (u + t)).toInt64) (i64_add (by omega)) ?_
              refine r_aload_n (pc := 81) C 0 dX6_minds_81 rfl rfl ?_
              refine mg_sizeOf (pc := 82) C fl_RX6_34 dX6_minds_82 ?_
              refine r_iload_n (pc := 85) C 1 dX6_minds_85 rfl rfl ?_
              refine al_sizeOf (pc := 86) C f (rfl) (by omega) dX6_minds_86 (σ 16 f) rfl ?_
              refine r_eqi (y := nI z) (hz2) ?_
              refine r_i2l (pc := 87) C dX6_minds_87 ?_
              refine r_lcmp (pc := 88) C dX6_minds_88 ?_
              refine r_if_le (pc := 89) C 95 dX6_minds_89 (by decide) (fun c_7 => ?_) (fun c_7 => ?_)
              · skip
                have c_7 := (lg_cmp_le _ _).mp c_7
                rw [i64_le] at c_7
                have c_7 := nIc_le_t (a := (u + t)) (b := z) (by omega) (by omega) c_7
                refine r_iconst (pc := 95) C 0 dX6_minds_95 (by decide) ?_
                refine r_istore (pc := 96) C [(5, .int 0), (0, .ref (h 0)), (1, .int (nI f)), (2, .int (nI u)), (3, .int (nI j)), (4, .int (nI t))] dX6_minds_96 (by decide) rfl ?_
                refine r_pick (lv' := [(0, .ref (h 0)), (1, .int (nI f)), (2, .int (nI u)), (3, .int (nI j)), (4, .int (nI t)), (5, .int 0)]) [1, 2, 3, 4, 5, 0] rfl ?_
                refine r_blk (blk' := wM cs h (su σ 0 (mdN (σ 0) (σ 17) j (40 * f + u) 0))) (rfl) ?_
                refine r_loop (blkf := fun i_ => wM cs h (su σ 0 (mdN (σ 0) (σ 17) j (40 * f + u) i_))) (lvf := fun i_ => [(0, .ref (h 0)), (1, .int (nI f)), (2, .int (nI u)), (3, .int (nI j)), (4, .int (nI t)), (5, .int (nI i_))]) (fun i_ => True) t 0 (by omega) (trivial) (fun i_ h_i_ _ ih => ?_)
                show VX p l e _ s m args below meth c _ D A 6 pre (wM cs h (su σ 0 (mdN (σ 0) (σ 17) j (40 * f + u) i_))) post 98 [(0, .ref (h 0)), (1, .int (nI f)), (2, .int (nI u)), (3, .int (nI j)), (4, .int (nI t)), (5, .int (nI i_))] []
                refine r_iload (pc := 98) C 5 dX6_minds_98 rfl ?_
                refine r_iload (pc := 100) C 4 dX6_minds_100 rfl ?_
                refine r_icmp_ge (pc := 102) C 144 dX6_minds_102 (by decide) (fun c_8 => ?_) (fun c_8 => ?_)
                · skip
                  have c_8 := nIc_ge_t (a := i_) (b := t) (by omega) (by omega) c_8
                  obtain rfl : t = i_ := by omega
                  refine r_iload (pc := 144) C 4 dX6_minds_144 rfl ?_
                  exact r_iret (pc := 146) C hr hlk dX6_minds_146 rfl (by first | rfl | (simp [gateI, gateF, *]; done) | simp_all [gateI, gateF]) (by rw [show (gateF ((inB (nI f) 0 3 && (oneB n (nI j) && (inB (nI t) 0 8 && decide ((nI j).toNatClampNeg + (nI t).toNatClampNeg ≤ n)))) && (decide (lkF (σ 15) (nI f).toNatClampNeg 0 = 0) && (inB (nI u) 0 (σ 16 (nI f).toNatClampNeg) && decide ((nI u).toNatClampNeg + (nI t).toNatClampNeg ≤ (σ 16 (nI f).toNatClampNeg).toNatClampNeg)))) (mdN (σ 0) (σ 17) (nI j).toNatClampNeg (40 * (nI f).toNatClampNeg + (nI u).toNatClampNeg) (nI t).toNatClampNeg) (σ 0) : Nat → Int32) = mdN (σ 0) (σ 17) j (40 * f + u) t from (by first | rfl | (simp [gateI, gateF, *]; done) | simp_all [gateI, gateF])] <;> rfl)
                · skip
                  have c_8 := nIc_ge_f (a := i_) (b := t) (by omega) (by omega) c_8
                  refine r_aload_n (pc := 105) C 0 dX6_minds_105 rfl rfl ?_
                  refine mg_s (pc := 106) C fl_RX6_7 dX6_minds_106 ?_
                  refine r_bipush (pc := 109) C 8 dX6_minds_109 (by decide) ?_
                  refine r_iconst (pc := 111) C 5 dX6_minds_111 (by decide) ?_
                  refine r_iload_n (pc := 112) C 3 dX6_minds_112 rfl rfl ?_
                  refine r_iload (pc := 113) C 5 dX6_minds_113 rfl ?_
                  refine r_iadd (pc := 115) C dX6_minds_115 ?_
                  refine r_eqi (y := nI (j + i_)) (nI_add j i_) ?_
                  refine r_imul (pc := 116) C dX6_minds_116 ?_
                  refine r_eqi (y := nI (5 * (j + i_))) (pk_mul 5 (j + i_)) ?_
                  refine r_iadd (pc := 117) C dX6_minds_117 ?_
                  refine r_eqi (y := nI (8 + (5 * (j + i_)))) (nI_add 8 (5 * (j + i_))) ?_
                  refine r_iconst (pc := 118) C 3 dX6_minds_118 (by decide) ?_
                  refine r_iadd (pc := 119) C dX6_minds_119 ?_
                  refine r_eqi (y := nI (8 + (5 * (j + i_)) + 3)) (nI_add (8 + (5 * (j + i_))) 3) ?_
                  refine r_aload_n (pc := 120) C 0 dX6_minds_120 rfl rfl ?_
                  refine mg_numbers (pc := 121) C fl_RX6_37 dX6_minds_121 ?_
                  refine r_bipush (pc := 124) C 40 dX6_minds_124 (by decide) ?_
                  refine r_iload_n (pc := 126) C 1 dX6_minds_126 rfl rfl ?_
                  refine r_imul (pc := 127) C dX6_minds_127 ?_
                  refine r_eqi (y := nI (40 * f)) (pk_mul 40 f) ?_
                  refine r_iload_n (pc := 128) C 2 dX6_minds_128 rfl rfl ?_
                  refine r_iadd (pc := 129) C dX6_minds_129 ?_
                  refine r_eqi (y := nI (40 * f + u)) (nI_add (40 * f) u) ?_
                  refine r_iload (pc := 130) C 5 dX6_minds_130 rfl ?_
                  refine r_iadd (pc := 132) C dX6_minds_132 ?_
                  refine r_eqi (y := nI (40 * f + u + i_)) (nI_add (40 * f + u) i_) ?_
                  refine al_numbers (pc := 133) C (40 * f + u + i_) (rfl) (by omega) dX6_minds_133 (σ 17 (40 * f + u + i_)) (congrFun ((su_nn (by decide))) _) ?_
                  refine rc_Si (pc := 134) C (t_X6_within l ad D (tysW cs) (wM cs h (su σ 0 (mdN (σ 0) (σ 17) j (40 * f + u) i_))) pre post  (σ 17 (40 * f + u + i_)) ) ms_X6_within ml_RX6_193 rfl ⟨Nat.le_of_ble_eq_true rfl, Nat.le_of_ble_eq_true rfl⟩ ⟨rfl, rfl⟩ rfl rfl rfl (Nat.le_of_ble_eq_true rfl) dX6_minds_134 ?_
                  refine as_s (pc := 137) C (8 + (5 * (j + i_)) + 3) (rfl) (by omega) dX6_minds_137 (mdN (σ 0) (σ 17) j (40 * f + u) i_) (su_at) ?_
                  refine r_blk (blk' := wM cs h (su σ 0 (upd (mdN (σ 0) (σ 17) j (40 * f + u) i_) (8 + (5 * (j + i_)) + 3) (heldI (σ 17 (40 * f + u + i_)))))) (congrArg (wM cs h) (by rw [su_su])) ?_
                  refine r_iinc (pc := 138) C (nI (i_ + 1)) 5 [(5, .int (nI (i_ + 1))), (0, .ref (h 0)), (1, .int (nI f)), (2, .int (nI u)), (3, .int (nI j)), (4, .int (nI t))] dX6_minds_138 rfl (nI_1 _) (by decide) rfl ?_
                  refine r_goto (pc := 141) C 98 dX6_minds_141 (by decide) ?_
                  refine r_pick (lv' := [(0, .ref (h 0)), (1, .int (nI f)), (2, .int (nI u)), (3, .int (nI j)), (4, .int (nI t)), (5, .int (nI (i_ + 1)))]) [1, 2, 3, 4, 5, 0] rfl ?_
                  refine r_blk (blk' := wM cs h (su σ 0 (mdN (σ 0) (σ 17) j (40 * f + u) (i_ + 1)))) (rfl) ?_
                  exact ih (by omega) (trivial)
              · skip
                have c_7 := mt (lg_cmp_le _ _).mpr c_7
                rw [i64_le] at c_7
                have c_7 := nIc_le_f (a := (u + t)) (b := z) (by omega) (by omega) c_7
                have hx_ := Nat.not_le.mpr c_7
                refine r_bipush (pc := 92) C (-12) dX6_minds_92 (by decide) ?_
                exact r_iret (pc := 94) C hr hlk dX6_minds_94 rfl (by first | rfl | (simp [gateI, gateF, *]; done) | simp_all [gateI, gateF]) (by rw [show (gateF ((inB (nI f) 0 3 && (oneB n (nI j) && (inB (nI t) 0 8 && decide ((nI j).toNatClampNeg + (nI t).toNatClampNeg ≤ n)))) && (decide (lkF (σ 15) (nI f).toNatClampNeg 0 = 0) && (inB (nI u) 0 (σ 16 (nI f).toNatClampNeg) && decide ((nI u).toNatClampNeg + (nI t).toNatClampNeg ≤ (σ 16 (nI f).toNatClampNeg).toNatClampNeg)))) (mdN (σ 0) (σ 17) (nI j).toNatClampNeg (40 * (nI f).toNatClampNeg + (nI u).toNatClampNeg) (nI t).toNatClampNeg) (σ 0) : Nat → Int32) = σ 0 from (by first | rfl | (simp [gateI, gateF, *]; done) | simp_all [gateI, gateF])] <;> rfl)
          · skip
            refine r_aload_n (pc := 52) C 0 dX6_minds_52 rfl rfl ?_
            refine r_iload_n (pc := 53) C 1 dX6_minds_53 rfl rfl ?_
            refine r_iconst (pc := 54) C 0 dX6_minds_54 (by decide) ?_
            refine rc_Vi (pc := 55) C (t_X6_lacks' l ad D cs h σ pre post (σ 15) (rfl) f (0 : Int32) (by omega)) mv_X6_lacks ml_RX6_271 rfl ⟨Nat.le_of_ble_eq_true rfl, Nat.le_of_ble_eq_true rfl⟩ ⟨rfl, rfl⟩ (q0 := 0) rfl rfl rfl rfl rfl rfl (Nat.le_of_ble_eq_true rfl) dX6_minds_55 ?_
            exact r_iret (pc := 58) C hr hlk dX6_minds_58 rfl (by first | rfl | (simp [gateI, gateF, *]; done) | simp_all [gateI, gateF]) (by rw [show (gateF ((inB (nI f) 0 3 && (oneB n (nI j) && (inB (nI t) 0 8 && decide ((nI j).toNatClampNeg + (nI t).toNatClampNeg ≤ n)))) && (decide (lkF (σ 15) (nI f).toNatClampNeg 0 = 0) && (inB i 0 (σ 16 (nI f).toNatClampNeg) && decide (i.toNatClampNeg + (nI t).toNatClampNeg ≤ (σ 16 (nI f).toNatClampNeg).toNatClampNeg)))) (mdN (σ 0) (σ 17) (nI j).toNatClampNeg (40 * (nI f).toNatClampNeg + i.toNatClampNeg) (nI t).toNatClampNeg) (σ 0) : Nat → Int32) = σ 0 from (by first | rfl | (simp [gateI, gateF, *]; done) | simp_all [gateI, gateF])] <;> rfl)
        · skip
          have c_4 := nIc_le_f (a := (j + t)) (b := n) (by omega) (by omega) c_4
          have hx_ := Nat.not_le.mpr c_4
          refine r_iconst (pc := 41) C (-1) dX6_minds_41 (by decide) ?_
          exact r_iret (pc := 42) C hr hlk dX6_minds_42 rfl (by first | rfl | (simp [gateI, gateF, *]; done) | simp_all [gateI, gateF]) (by rw [show (gateF ((inB (nI f) 0 3 && (oneB n (nI j) && (inB (nI t) 0 8 && decide ((nI j).toNatClampNeg + (nI t).toNatClampNeg ≤ n)))) && (decide (lkF (σ 15) (nI f).toNatClampNeg 0 = 0) && (inB i 0 (σ 16 (nI f).toNatClampNeg) && decide (i.toNatClampNeg + (nI t).toNatClampNeg ≤ (σ 16 (nI f).toNatClampNeg).toNatClampNeg)))) (mdN (σ 0) (σ 17) (nI j).toNatClampNeg (40 * (nI f).toNatClampNeg + i.toNatClampNeg) (nI t).toNatClampNeg) (σ 0) : Nat → Int32) = σ 0 from (by first | rfl | (simp [gateI, gateF, *]; done) | simp_all [gateI, gateF])] <;> rfl)
theorem t_X6_minds' (l : Launch) (ad : Nat → Nat) (D : va_G) (cs : Nat → ClassId) (h : Nat → Nat) (σ : Nat → Nat → Int32) (pre post : va_W) (f0_ : Nat → Int32) (e0_ : σ 0 = f0_) (f15_ : Nat → Int32) (e15_ : σ 15 = f15_) (f16_ : Nat → Int32) (e16_ : σ 16 = f16_) (f17_ : Nat → Int32) (e17_ : σ 17 = f17_) (n : Nat) (g i o k : Int32) (hN : f0_ 0 = nI n) (hn : n ≤ 8) (hz : ∀ t : Nat, t < 4 → ∃ z : Nat, z ≤ 40 ∧ f16_ t = nI z) : CTi l yX6_minds cX6_minds 6 .int ({ frames := 2, cells := 0, slots := 0, locals := 45 }) ad D (tysW cs) (pre ++ (wM cs h σ ++ post)) [.ref (h 0), .int g, .int i, .int o, .int k] (gateI (inB g 0 3 && (oneB n o && (inB k 0 8 && decide (o.toNatClampNeg + k.toNatClampNeg ≤ n)))) (if lkF (f15_) g.toNatClampNeg 0 = 0 then gateI (inB i 0 (f16_ g.toNatClampNeg) && decide (i.toNatClampNeg + k.toNatClampNeg ≤ (f16_ g.toNatClampNeg).toNatClampNeg)) k (-12) else lkF (f15_) g.toNatClampNeg 0) (-1)) (pre ++ (wM cs h (su σ 0 (gateF ((inB g 0 3 && (oneB n o && (inB k 0 8 && decide (o.toNatClampNeg + k.toNatClampNeg ≤ n)))) && (decide (lkF (f15_) g.toNatClampNeg 0 = 0) && (inB i 0 (f16_ g.toNatClampNeg) && decide (i.toNatClampNeg + k.toNatClampNeg ≤ (f16_ g.toNatClampNeg).toNatClampNeg)))) (mdN f0_ (f17_) o.toNatClampNeg (40 * g.toNatClampNeg + i.toNatClampNeg) k.toNatClampNeg) f0_)) ++ post)) := by
  subst e0_; subst e15_; subst e16_; subst e17_
  exact t_X6_minds l ad D cs h σ pre post n g i o k hN hn hz
theorem dX6_sheet_0 : decode cX6_sheet 0 = .ok (.iload_n 1, 1) := by decide +kernel
theorem dX6_sheet_1 : decode cX6_sheet 1 = .ok (.invokestatic 246, 3) := by decide +kernel
theorem dX6_sheet_4 : decode cX6_sheet 4 = .ok (.ifCond .eq 27, 3) := by decide +kernel
theorem dX6_sheet_7 : decode cX6_sheet 7 = .ok (.iload_n 2, 1) := by decide +kernel
theorem dX6_sheet_8 : decode cX6_sheet 8 = .ok (.i2l, 1) := by decide +kernel
theorem dX6_sheet_9 : decode cX6_sheet 9 = .ok (.ldc2_w 252, 3) := by decide +kernel
theorem dX6_sheet_12 : decode cX6_sheet 12 = .ok (.ldc2_w 144, 3) := by decide +kernel
theorem dX6_sheet_15 : decode cX6_sheet 15 = .ok (.invokestatic 57, 3) := by decide +kernel
theorem dX6_sheet_18 : decode cX6_sheet 18 = .ok (.ifCond .eq 13, 3) := by decide +kernel
theorem dX6_sheet_21 : decode cX6_sheet 21 = .ok (.iload_n 2, 1) := by decide +kernel
theorem dX6_sheet_22 : decode cX6_sheet 22 = .ok (.ifCond .lt 11, 3) := by decide +kernel
theorem dX6_sheet_25 : decode cX6_sheet 25 = .ok (.iload_n 3, 1) := by decide +kernel
theorem dX6_sheet_26 : decode cX6_sheet 26 = .ok (.bipush 40, 2) := by decide +kernel
theorem dX6_sheet_28 : decode cX6_sheet 28 = .ok (.if_icmp .le 5, 3) := by decide +kernel
theorem dX6_sheet_31 : decode cX6_sheet 31 = .ok (.iconst (-1), 1) := by decide +kernel
theorem dX6_sheet_32 : decode cX6_sheet 32 = .ok (.ireturn, 1) := by decide +kernel
theorem dX6_sheet_33 : decode cX6_sheet 33 = .ok (.iload_n 2, 1) := by decide +kernel
theorem dX6_sheet_34 : decode cX6_sheet 34 = .ok (.ifCond .lt 10, 3) := by decide +kernel
theorem dX6_sheet_37 : decode cX6_sheet 37 = .ok (.iload_n 3, 1) := by decide +kernel
theorem dX6_sheet_38 : decode cX6_sheet 38 = .ok (.ifCond .ge 6, 3) := by decide +kernel
theorem dX6_sheet_41 : decode cX6_sheet 41 = .ok (.bipush (-14), 2) := by decide +kernel
theorem dX6_sheet_43 : decode cX6_sheet 43 = .ok (.ireturn, 1) := by decide +kernel
theorem dX6_sheet_44 : decode cX6_sheet 44 = .ok (.aload_n 0, 1) := by decide +kernel
theorem dX6_sheet_45 : decode cX6_sheet 45 = .ok (.getfield 31, 3) := by decide +kernel
theorem dX6_sheet_48 : decode cX6_sheet 48 = .ok (.iload_n 1, 1) := by decide +kernel
theorem dX6_sheet_49 : decode cX6_sheet 49 = .ok (.iload_n 2, 1) := by decide +kernel
theorem dX6_sheet_50 : decode cX6_sheet 50 = .ok (.iastore, 1) := by decide +kernel
theorem dX6_sheet_51 : decode cX6_sheet 51 = .ok (.aload_n 0, 1) := by decide +kernel
theorem dX6_sheet_52 : decode cX6_sheet 52 = .ok (.getfield 34, 3) := by decide +kernel
theorem dX6_sheet_55 : decode cX6_sheet 55 = .ok (.iload_n 1, 1) := by decide +kernel
theorem dX6_sheet_56 : decode cX6_sheet 56 = .ok (.iload_n 2, 1) := by decide +kernel
theorem dX6_sheet_57 : decode cX6_sheet 57 = .ok (.ifCond .ge 7, 3) := by decide +kernel
theorem dX6_sheet_60 : decode cX6_sheet 60 = .ok (.iconst 0, 1) := by decide +kernel
theorem dX6_sheet_61 : decode cX6_sheet 61 = .ok (.goto 4, 3) := by decide +kernel
theorem dX6_sheet_64 : decode cX6_sheet 64 = .ok (.iload_n 3, 1) := by decide +kernel
theorem dX6_sheet_65 : decode cX6_sheet 65 = .ok (.iastore, 1) := by decide +kernel
theorem dX6_sheet_66 : decode cX6_sheet 66 = .ok (.iconst 0, 1) := by decide +kernel
theorem dX6_sheet_67 : decode cX6_sheet 67 = .ok (.istore 4, 2) := by decide +kernel
theorem dX6_sheet_69 : decode cX6_sheet 69 = .ok (.iload 4, 2) := by decide +kernel
theorem dX6_sheet_71 : decode cX6_sheet 71 = .ok (.bipush 40, 2) := by decide +kernel
theorem dX6_sheet_73 : decode cX6_sheet 73 = .ok (.if_icmp .ge 22, 3) := by decide +kernel
theorem dX6_sheet_76 : decode cX6_sheet 76 = .ok (.aload_n 0, 1) := by decide +kernel
theorem dX6_sheet_77 : decode cX6_sheet 77 = .ok (.getfield 37, 3) := by decide +kernel
theorem dX6_sheet_80 : decode cX6_sheet 80 = .ok (.bipush 40, 2) := by decide +kernel
theorem dX6_sheet_82 : decode cX6_sheet 82 = .ok (.iload_n 1, 1) := by decide +kernel
theorem dX6_sheet_83 : decode cX6_sheet 83 = .ok (.imul, 1) := by decide +kernel
theorem dX6_sheet_84 : decode cX6_sheet 84 = .ok (.iload 4, 2) := by decide +kernel
theorem dX6_sheet_86 : decode cX6_sheet 86 = .ok (.iadd, 1) := by decide +kernel
theorem dX6_sheet_87 : decode cX6_sheet 87 = .ok (.iconst 0, 1) := by decide +kernel
theorem dX6_sheet_88 : decode cX6_sheet 88 = .ok (.iastore, 1) := by decide +kernel
theorem dX6_sheet_89 : decode cX6_sheet 89 = .ok (.iinc 4 1, 3) := by decide +kernel
theorem dX6_sheet_92 : decode cX6_sheet 92 = .ok (.goto (-23), 3) := by decide +kernel
theorem dX6_sheet_95 : decode cX6_sheet 95 = .ok (.iconst 1, 1) := by decide +kernel
theorem dX6_sheet_96 : decode cX6_sheet 96 = .ok (.ireturn, 1) := by decide +kernel
set_option maxHeartbeats 400000 in
set_option maxRecDepth 20000 in
theorem t_X6_sheet (l : Launch) (ad : Nat → Nat) (D : va_G) (cs : Nat → ClassId) (h : Nat → Nat) (σ : Nat → Nat → Int32) (pre post : va_W) (n : Nat) (g x k : Int32) (hN : σ 0 0 = nI n) (hn : n ≤ 8) : CTi l yX6_sheet cX6_sheet 5 .int ({ frames := 2, cells := 0, slots := 0, locals := 45 }) ad D (tysW cs) (pre ++ (wM cs h σ ++ post)) [.ref (h 0), .int g, .int x, .int k] (gateI (sheB g x k) (gateI (sheC g x k) 1 (-14)) (-1)) (pre ++ (wM cs h (su (su (su σ 15 (gateF (sheC g x k) (upd (σ 15) g.toNatClampNeg x) (σ 15))) 16 (gateF (sheC g x k) (upd (σ 16) g.toNatClampNeg (if x < 0 then 0 else k)) (σ 16))) 17 (gateF (sheC g x k) (zrN (σ 17) g.toNatClampNeg 40) (σ 17))) ++ post)) := by
  refine CTi.of (lv0 := [(0, .ref (h 0)), (1, .int g), (2, .int x), (3, .int k)]) (by decide) rfl (Nat.le_of_ble_eq_true rfl) (fun p e s m args below meth c A C hr hlk => ?_)
  have C : Cx p s m args c cX6_sheet 5 RX6 ad D (tysW cs) A := C
  refine r_iload_n (pc := 0) C 1 dX6_sheet_0 rfl rfl ?_
  refine rc_Si (pc := 1) C (t_X6_isSheet l ad D (tysW cs) (wM cs h σ) pre post  g ) ms_X6_isSheet ml_RX6_246 rfl ⟨Nat.le_of_ble_eq_true rfl, Nat.le_of_ble_eq_true rfl⟩ ⟨rfl, rfl⟩ rfl rfl rfl (Nat.le_of_ble_eq_true rfl) dX6_sheet_1 ?_
  refine r_if_eq (pc := 4) C 31 dX6_sheet_4 (by decide) (fun c_1 => ?_) (fun c_1 => ?_)
  · skip
    have c_1 := bI_0.mp c_1
    refine r_iconst (pc := 31) C (-1) dX6_sheet_31 (by decide) ?_
    exact r_iret (pc := 32) C hr hlk dX6_sheet_32 rfl (by first | rfl | (simp [gateI, gateF, sheB, sheC, *]; done) | simp_all [gateI, gateF, sheB, sheC]) (by rw [show (gateF (sheC g x k) (upd (σ 15) g.toNatClampNeg x) (σ 15) : Nat → Int32) = σ 15 from (by first | rfl | (simp [gateI, gateF, sheB, sheC, *]; done) | simp_all [gateI, gateF, sheB, sheC]), show (gateF (sheC g x k) (upd (σ 16) g.toNatClampNeg (if x < 0 then 0 else k)) (σ 16) : Nat → Int32) = σ 16 from (by first | rfl | (simp [gateI, gateF, sheB, sheC, *]; done) | simp_all [gateI, gateF, sheB, sheC]), show (gateF (sheC g x k) (zrN (σ 17) g.toNatClampNeg 40) (σ 17) : Nat → Int32) = σ 17 from (by first | rfl | (simp [gateI, gateF, sheB, sheC, *]; done) | simp_all [gateI, gateF, sheB, sheC])] <;> rfl)
  · skip
    have c_1 := bI_n.mp c_1
    obtain ⟨f, l_f, h_f, rfl⟩ := rng_nat 0 3 (by decide) (by decide) c_1
    have e_f : (nI f).toNatClampNeg = f := nI_clamp (by omega)
    refine r_iload_n (pc := 7) C 2 dX6_sheet_7 rfl rfl ?_
    refine r_i2l (pc := 8) C dX6_sheet_8 ?_
    refine r_ldc2 (pc := 9) C dX6_sheet_9 cn_RX6_252 ?_
    refine r_ldc2 (pc := 12) C dX6_sheet_12 cn_RX6_144 ?_
    refine rc_Si (pc := 15) C (t_X6_isIn l ad D (tysW cs) (wM cs h σ) pre post  x ((-1) : Int32) (3 : Int32) ) ms_X6_isIn ml_RX6_57 rfl ⟨Nat.le_of_ble_eq_true rfl, Nat.le_of_ble_eq_true rfl⟩ ⟨rfl, rfl⟩ rfl rfl rfl (Nat.le_of_ble_eq_true rfl) dX6_sheet_15 ?_
    refine r_if_eq (pc := 18) C 31 dX6_sheet_18 (by decide) (fun c_2 => ?_) (fun c_2 => ?_)
    · skip
      have c_2 := bI_0.mp c_2
      refine r_iconst (pc := 31) C (-1) dX6_sheet_31 (by decide) ?_
      exact r_iret (pc := 32) C hr hlk dX6_sheet_32 rfl (by first | rfl | (simp [gateI, gateF, sheB, sheC, *]; done) | simp_all [gateI, gateF, sheB, sheC]) (by rw [show (gateF (sheC (nI f) x k) (upd (σ 15) (nI f).toNatClampNeg x) (σ 15) : Nat → Int32) = σ 15 from (by first | rfl | (simp [gateI, gateF, sheB, sheC, *]; done) | simp_all [gateI, gateF, sheB, sheC]), show (gateF (sheC (nI f) x k) (upd (σ 16) (nI f).toNatClampNeg (if x < 0 then 0 else k)) (σ 16) : Nat → Int32) = σ 16 from (by first | rfl | (simp [gateI, gateF, sheB, sheC, *]; done) | simp_all [gateI, gateF, sheB, sheC]), show (gateF (sheC (nI f) x k) (zrN (σ 17) (nI f).toNatClampNeg 40) (σ 17) : Nat → Int32) = σ 17 from (by first | rfl | (simp [gateI, gateF, sheB, sheC, *]; done) | simp_all [gateI, gateF, sheB, sheC])] <;> rfl)
    · skip
      have c_2 := bI_n.mp c_2
      refine r_iload_n (pc := 21) C 2 dX6_sheet_21 rfl rfl ?_
      refine r_if_lt (pc := 22) C 33 dX6_sheet_22 (by decide) (fun c_3 => ?_) (fun c_3 => ?_)
      · skip
        refine r_iload_n (pc := 33) C 2 dX6_sheet_33 rfl rfl ?_
        refine r_if_lt (pc := 34) C 44 dX6_sheet_34 (by decide) (fun c_4 => ?_) (fun c_4 => ?_)
        · skip
          refine r_aload_n (pc := 44) C 0 dX6_sheet_44 rfl rfl ?_
          refine mg_sortOf (pc := 45) C fl_RX6_31 dX6_sheet_45 ?_
          refine r_iload_n (pc := 48) C 1 dX6_sheet_48 rfl rfl ?_
          refine r_iload_n (pc := 49) C 2 dX6_sheet_49 rfl rfl ?_
          refine as_sortOf (pc := 50) C f (rfl) (by omega) dX6_sheet_50 (σ 15) (rfl) ?_
          refine r_aload_n (pc := 51) C 0 dX6_sheet_51 rfl rfl ?_
          refine mg_sizeOf (pc := 52) C fl_RX6_34 dX6_sheet_52 ?_
          refine r_iload_n (pc := 55) C 1 dX6_sheet_55 rfl rfl ?_
          refine r_iload_n (pc := 56) C 2 dX6_sheet_56 rfl rfl ?_
          refine r_if_ge (pc := 57) C 64 dX6_sheet_57 (by decide) (fun c_5 => ?_) (fun c_5 => ?_)
          · skip
            exact absurd c_3 (Int32.not_lt.mpr c_5)
          · skip
            refine r_iconst (pc := 60) C 0 dX6_sheet_60 (by decide) ?_
            refine r_goto (pc := 61) C 65 dX6_sheet_61 (by decide) ?_
            refine as_sizeOf (pc := 65) C f (rfl) (by omega) dX6_sheet_65 (σ 16) ((su_nn (by decide))) ?_
            refine r_iconst (pc := 66) C 0 dX6_sheet_66 (by decide) ?_
            refine r_istore (pc := 67) C [(4, .int 0), (0, .ref (h 0)), (1, .int (nI f)), (2, .int x), (3, .int k)] dX6_sheet_67 (by decide) rfl ?_
            refine r_pick (lv' := [(0, .ref (h 0)), (1, .int (nI f)), (2, .int x), (3, .int k), (4, .int 0)]) [1, 2, 3, 4, 0] rfl ?_
            refine r_blk (blk' := wM cs h (su (su (su σ 15 (upd (σ 15) f x)) 16 (upd (σ 16) f 0)) 17 (zrN (σ 17) f 0))) (rfl) ?_
            refine r_loop (blkf := fun i => wM cs h (su (su (su σ 15 (upd (σ 15) f x)) 16 (upd (σ 16) f 0)) 17 (zrN (σ 17) f i))) (lvf := fun i => [(0, .ref (h 0)), (1, .int (nI f)), (2, .int x), (3, .int k), (4, .int (nI i))]) (fun i => True) 40 0 (by omega) (trivial) (fun i h_i _ ih => ?_)
            show VX p l e _ s m args below meth c _ D A 5 pre (wM cs h (su (su (su σ 15 (upd (σ 15) f x)) 16 (upd (σ 16) f 0)) 17 (zrN (σ 17) f i))) post 69 [(0, .ref (h 0)), (1, .int (nI f)), (2, .int x), (3, .int k), (4, .int (nI i))] []
            refine r_iload (pc := 69) C 4 dX6_sheet_69 rfl ?_
            refine r_bipush (pc := 71) C 40 dX6_sheet_71 (by decide) ?_
            refine r_icmp_ge (pc := 73) C 95 dX6_sheet_73 (by decide) (fun c_6 => ?_) (fun c_6 => ?_)
            · skip
              have c_6 := nIc_ge_t (a := i) (b := 40) (by omega) (by omega) c_6
              obtain rfl : i = 40 := by omega
              refine r_iconst (pc := 95) C 1 dX6_sheet_95 (by decide) ?_
              exact r_iret (pc := 96) C hr hlk dX6_sheet_96 rfl (by first | rfl | (simp [gateI, gateF, sheB, sheC, *]; done) | simp_all [gateI, gateF, sheB, sheC]) (by rw [show (gateF (sheC (nI f) x k) (upd (σ 15) (nI f).toNatClampNeg x) (σ 15) : Nat → Int32) = upd (σ 15) f x from (by first | rfl | (simp [gateI, gateF, sheB, sheC, *]; done) | simp_all [gateI, gateF, sheB, sheC]), show (gateF (sheC (nI f) x k) (upd (σ 16) (nI f).toNatClampNeg (if x < 0 then 0 else k)) (σ 16) : Nat → Int32) = upd (σ 16) f 0 from (by first | rfl | (simp [gateI, gateF, sheB, sheC, *]; done) | simp_all [gateI, gateF, sheB, sheC]), show (gateF (sheC (nI f) x k) (zrN (σ 17) (nI f).toNatClampNeg 40) (σ 17) : Nat → Int32) = zrN (σ 17) f 40 from (by first | rfl | (simp [gateI, gateF, sheB, sheC, *]; done) | simp_all [gateI, gateF, sheB, sheC])] <;> rfl)
            · skip
              have c_6 := nIc_ge_f (a := i) (b := 40) (by omega) (by omega) c_6
              refine r_aload_n (pc := 76) C 0 dX6_sheet_76 rfl rfl ?_
              refine mg_numbers (pc := 77) C fl_RX6_37 dX6_sheet_77 ?_
              refine r_bipush (pc := 80) C 40 dX6_sheet_80 (by decide) ?_
              refine r_iload_n (pc := 82) C 1 dX6_sheet_82 rfl rfl ?_
              refine r_imul (pc := 83) C dX6_sheet_83 ?_
              refine r_eqi (y := nI (40 * f)) (pk_mul 40 f) ?_
              refine r_iload (pc := 84) C 4 dX6_sheet_84 rfl ?_
              refine r_iadd (pc := 86) C dX6_sheet_86 ?_
              refine r_eqi (y := nI (40 * f + i)) (nI_add (40 * f) i) ?_
              refine r_iconst (pc := 87) C 0 dX6_sheet_87 (by decide) ?_
              refine as_numbers (pc := 88) C (40 * f + i) (rfl) (by omega) dX6_sheet_88 (zrN (σ 17) f i) (su_at) ?_
              refine r_blk (blk' := wM cs h (su (su (su σ 15 (upd (σ 15) f x)) 16 (upd (σ 16) f 0)) 17 (upd (zrN (σ 17) f i) (40 * f + i) 0))) (congrArg (wM cs h) (by rw [su_su])) ?_
              refine r_iinc (pc := 89) C (nI (i + 1)) 4 [(4, .int (nI (i + 1))), (0, .ref (h 0)), (1, .int (nI f)), (2, .int x), (3, .int k)] dX6_sheet_89 rfl (nI_1 _) (by decide) rfl ?_
              refine r_goto (pc := 92) C 69 dX6_sheet_92 (by decide) ?_
              refine r_pick (lv' := [(0, .ref (h 0)), (1, .int (nI f)), (2, .int x), (3, .int k), (4, .int (nI (i + 1)))]) [1, 2, 3, 4, 0] rfl ?_
              refine r_blk (blk' := wM cs h (su (su (su σ 15 (upd (σ 15) f x)) 16 (upd (σ 16) f 0)) 17 (zrN (σ 17) f (i + 1)))) (rfl) ?_
              exact ih (by omega) (trivial)
        · skip
          exact absurd c_3 c_4
      · skip
        refine r_iload_n (pc := 25) C 3 dX6_sheet_25 rfl rfl ?_
        refine r_bipush (pc := 26) C 40 dX6_sheet_26 (by decide) ?_
        refine r_icmp_le (pc := 28) C 33 dX6_sheet_28 (by decide) (fun c_7 => ?_) (fun c_7 => ?_)
        · skip
          refine r_iload_n (pc := 33) C 2 dX6_sheet_33 rfl rfl ?_
          refine r_if_lt (pc := 34) C 44 dX6_sheet_34 (by decide) (fun c_8 => ?_) (fun c_8 => ?_)
          · skip
            exact absurd c_8 c_3
          · skip
            refine r_iload_n (pc := 37) C 3 dX6_sheet_37 rfl rfl ?_
            refine r_if_ge (pc := 38) C 44 dX6_sheet_38 (by decide) (fun c_9 => ?_) (fun c_9 => ?_)
            · skip
              refine r_aload_n (pc := 44) C 0 dX6_sheet_44 rfl rfl ?_
              refine mg_sortOf (pc := 45) C fl_RX6_31 dX6_sheet_45 ?_
              refine r_iload_n (pc := 48) C 1 dX6_sheet_48 rfl rfl ?_
              refine r_iload_n (pc := 49) C 2 dX6_sheet_49 rfl rfl ?_
              refine as_sortOf (pc := 50) C f (rfl) (by omega) dX6_sheet_50 (σ 15) (rfl) ?_
              refine r_aload_n (pc := 51) C 0 dX6_sheet_51 rfl rfl ?_
              refine mg_sizeOf (pc := 52) C fl_RX6_34 dX6_sheet_52 ?_
              refine r_iload_n (pc := 55) C 1 dX6_sheet_55 rfl rfl ?_
              refine r_iload_n (pc := 56) C 2 dX6_sheet_56 rfl rfl ?_
              refine r_if_ge (pc := 57) C 64 dX6_sheet_57 (by decide) (fun c_10 => ?_) (fun c_10 => ?_)
              · skip
                refine r_iload_n (pc := 64) C 3 dX6_sheet_64 rfl rfl ?_
                refine as_sizeOf (pc := 65) C f (rfl) (by omega) dX6_sheet_65 (σ 16) ((su_nn (by decide))) ?_
                refine r_iconst (pc := 66) C 0 dX6_sheet_66 (by decide) ?_
                refine r_istore (pc := 67) C [(4, .int 0), (0, .ref (h 0)), (1, .int (nI f)), (2, .int x), (3, .int k)] dX6_sheet_67 (by decide) rfl ?_
                refine r_pick (lv' := [(0, .ref (h 0)), (1, .int (nI f)), (2, .int x), (3, .int k), (4, .int 0)]) [1, 2, 3, 4, 0] rfl ?_
                refine r_blk (blk' := wM cs h (su (su (su σ 15 (upd (σ 15) f x)) 16 (upd (σ 16) f k)) 17 (zrN (σ 17) f 0))) (rfl) ?_
                refine r_loop (blkf := fun i => wM cs h (su (su (su σ 15 (upd (σ 15) f x)) 16 (upd (σ 16) f k)) 17 (zrN (σ 17) f i))) (lvf := fun i => [(0, .ref (h 0)), (1, .int (nI f)), (2, .int x), (3, .int k), (4, .int (nI i))]) (fun i => True) 40 0 (by omega) (trivial) (fun i h_i _ ih => ?_)
                show VX p l e _ s m args below meth c _ D A 5 pre (wM cs h (su (su (su σ 15 (upd (σ 15) f x)) 16 (upd (σ 16) f k)) 17 (zrN (σ 17) f i))) post 69 [(0, .ref (h 0)), (1, .int (nI f)), (2, .int x), (3, .int k), (4, .int (nI i))] []
                refine r_iload (pc := 69) C 4 dX6_sheet_69 rfl ?_
                refine r_bipush (pc := 71) C 40 dX6_sheet_71 (by decide) ?_
                refine r_icmp_ge (pc := 73) C 95 dX6_sheet_73 (by decide) (fun c_11 => ?_) (fun c_11 => ?_)
                · skip
                  have c_11 := nIc_ge_t (a := i) (b := 40) (by omega) (by omega) c_11
                  obtain rfl : i = 40 := by omega
                  refine r_iconst (pc := 95) C 1 dX6_sheet_95 (by decide) ?_
                  exact r_iret (pc := 96) C hr hlk dX6_sheet_96 rfl (by first | rfl | (simp [gateI, gateF, sheB, sheC, *]; done) | simp_all [gateI, gateF, sheB, sheC]) (by rw [show (gateF (sheC (nI f) x k) (upd (σ 15) (nI f).toNatClampNeg x) (σ 15) : Nat → Int32) = upd (σ 15) f x from (by first | rfl | (simp [gateI, gateF, sheB, sheC, *]; done) | simp_all [gateI, gateF, sheB, sheC]), show (gateF (sheC (nI f) x k) (upd (σ 16) (nI f).toNatClampNeg (if x < 0 then 0 else k)) (σ 16) : Nat → Int32) = upd (σ 16) f k from (by first | rfl | (simp [gateI, gateF, sheB, sheC, *]; done) | simp_all [gateI, gateF, sheB, sheC]), show (gateF (sheC (nI f) x k) (zrN (σ 17) (nI f).toNatClampNeg 40) (σ 17) : Nat → Int32) = zrN (σ 17) f 40 from (by first | rfl | (simp [gateI, gateF, sheB, sheC, *]; done) | simp_all [gateI, gateF, sheB, sheC])] <;> rfl)
                · skip
                  have c_11 := nIc_ge_f (a := i) (b := 40) (by omega) (by omega) c_11
                  refine r_aload_n (pc := 76) C 0 dX6_sheet_76 rfl rfl ?_
                  refine mg_numbers (pc := 77) C fl_RX6_37 dX6_sheet_77 ?_
                  refine r_bipush (pc := 80) C 40 dX6_sheet_80 (by decide) ?_
                  refine r_iload_n (pc := 82) C 1 dX6_sheet_82 rfl rfl ?_
                  refine r_imul (pc := 83) C dX6_sheet_83 ?_
                  refine r_eqi (y := nI (40 * f)) (pk_mul 40 f) ?_
                  refine r_iload (pc := 84) C 4 dX6_sheet_84 rfl ?_
                  refine r_iadd (pc := 86) C dX6_sheet_86 ?_
                  refine r_eqi (y := nI (40 * f + i)) (nI_add (40 * f) i) ?_
                  refine r_iconst (pc := 87) C 0 dX6_sheet_87 (by decide) ?_
                  refine as_numbers (pc := 88) C (40 * f + i) (rfl) (by omega) dX6_sheet_88 (zrN (σ 17) f i) (su_at) ?_
                  refine r_blk (blk' := wM cs h (su (su (su σ 15 (upd (σ 15) f x)) 16 (upd (σ 16) f k)) 17 (upd (zrN (σ 17) f i) (40 * f + i) 0))) (congrArg (wM cs h) (by rw [su_su])) ?_
                  refine r_iinc (pc := 89) C (nI (i + 1)) 4 [(4, .int (nI (i + 1))), (0, .ref (h 0)), (1, .int (nI f)), (2, .int x), (3, .int k)] dX6_sheet_89 rfl (nI_1 _) (by decide) rfl ?_
                  refine r_goto (pc := 92) C 69 dX6_sheet_92 (by decide) ?_
                  refine r_pick (lv' := [(0, .ref (h 0)), (1, .int (nI f)), (2, .int x), (3, .int k), (4, .int (nI (i + 1)))]) [1, 2, 3, 4, 0] rfl ?_
                  refine r_blk (blk' := wM cs h (su (su (su σ 15 (upd (σ 15) f x)) 16 (upd (σ 16) f k)) 17 (zrN (σ 17) f (i + 1)))) (rfl) ?_
                  exact ih (by omega) (trivial)
              · skip
                exact absurd (Int32.not_lt.mp c_3) c_10
            · skip
              refine r_bipush (pc := 41) C (-14) dX6_sheet_41 (by decide) ?_
              exact r_iret (pc := 43) C hr hlk dX6_sheet_43 rfl (by first | rfl | (simp [gateI, gateF, sheB, sheC, *]; done) | simp_all [gateI, gateF, sheB, sheC]) (by rw [show (gateF (sheC (nI f) x k) (upd (σ 15) (nI f).toNatClampNeg x) (σ 15) : Nat → Int32) = σ 15 from (by first | rfl | (simp [gateI, gateF, sheB, sheC, *]; done) | simp_all [gateI, gateF, sheB, sheC]), show (gateF (sheC (nI f) x k) (upd (σ 16) (nI f).toNatClampNeg (if x < 0 then 0 else k)) (σ 16) : Nat → Int32) = σ 16 from (by first | rfl | (simp [gateI, gateF, sheB, sheC, *]; done) | simp_all [gateI, gateF, sheB, sheC]), show (gateF (sheC (nI f) x k) (zrN (σ 17) (nI f).toNatClampNeg 40) (σ 17) : Nat → Int32) = σ 17 from (by first | rfl | (simp [gateI, gateF, sheB, sheC, *]; done) | simp_all [gateI, gateF, sheB, sheC])] <;> rfl)
        · skip
          refine r_iconst (pc := 31) C (-1) dX6_sheet_31 (by decide) ?_
          exact r_iret (pc := 32) C hr hlk dX6_sheet_32 rfl (by first | rfl | (simp [gateI, gateF, sheB, sheC, *]; done) | simp_all [gateI, gateF, sheB, sheC]) (by rw [show (gateF (sheC (nI f) x k) (upd (σ 15) (nI f).toNatClampNeg x) (σ 15) : Nat → Int32) = σ 15 from (by first | rfl | (simp [gateI, gateF, sheB, sheC, *]; done) | simp_all [gateI, gateF, sheB, sheC]), show (gateF (sheC (nI f) x k) (upd (σ 16) (nI f).toNatClampNeg (if x < 0 then 0 else k)) (σ 16) : Nat → Int32) = σ 16 from (by first | rfl | (simp [gateI, gateF, sheB, sheC, *]; done) | simp_all [gateI, gateF, sheB, sheC]), show (gateF (sheC (nI f) x k) (zrN (σ 17) (nI f).toNatClampNeg 40) (σ 17) : Nat → Int32) = σ 17 from (by first | rfl | (simp [gateI, gateF, sheB, sheC, *]; done) | simp_all [gateI, gateF, sheB, sheC])] <;> rfl)
theorem t_X6_sheet' (l : Launch) (ad : Nat → Nat) (D : va_G) (cs : Nat → ClassId) (h : Nat → Nat) (σ : Nat → Nat → Int32) (pre post : va_W) (f0_ : Nat → Int32) (e0_ : σ 0 = f0_) (f15_ : Nat → Int32) (e15_ : σ 15 = f15_) (f16_ : Nat → Int32) (e16_ : σ 16 = f16_) (f17_ : Nat → Int32) (e17_ : σ 17 = f17_) (n : Nat) (g x k : Int32) (hN : f0_ 0 = nI n) (hn : n ≤ 8) : CTi l yX6_sheet cX6_sheet 5 .int ({ frames := 2, cells := 0, slots := 0, locals := 45 }) ad D (tysW cs) (pre ++ (wM cs h σ ++ post)) [.ref (h 0), .int g, .int x, .int k] (gateI (sheB g x k) (gateI (sheC g x k) 1 (-14)) (-1)) (pre ++ (wM cs h (su (su (su σ 15 (gateF (sheC g x k) (upd (f15_) g.toNatClampNeg x) (f15_))) 16 (gateF (sheC g x k) (upd (f16_) g.toNatClampNeg (if x < 0 then 0 else k)) (f16_))) 17 (gateF (sheC g x k) (zrN (f17_) g.toNatClampNeg 40) (f17_))) ++ post)) := by
  subst e0_; subst e15_; subst e16_; subst e17_
  exact t_X6_sheet l ad D cs h σ pre post n g x k hN hn
theorem dX6_shelf_0 : decode cX6_shelf 0 = .ok (.iload_n 1, 1) := by decide +kernel
theorem dX6_shelf_1 : decode cX6_shelf 1 = .ok (.invokestatic 274, 3) := by decide +kernel
theorem dX6_shelf_4 : decode cX6_shelf 4 = .ok (.ifCond .eq 39, 3) := by decide +kernel
theorem dX6_shelf_7 : decode cX6_shelf 7 = .ok (.iload_n 2, 1) := by decide +kernel
theorem dX6_shelf_8 : decode cX6_shelf 8 = .ok (.i2l, 1) := by decide +kernel
theorem dX6_shelf_9 : decode cX6_shelf 9 = .ok (.lconst 0, 1) := by decide +kernel
theorem dX6_shelf_10 : decode cX6_shelf 10 = .ok (.ldc2_w 266, 3) := by decide +kernel
theorem dX6_shelf_13 : decode cX6_shelf 13 = .ok (.invokestatic 57, 3) := by decide +kernel
theorem dX6_shelf_16 : decode cX6_shelf 16 = .ok (.ifCond .eq 27, 3) := by decide +kernel
theorem dX6_shelf_19 : decode cX6_shelf 19 = .ok (.iload_n 2, 1) := by decide +kernel
theorem dX6_shelf_20 : decode cX6_shelf 20 = .ok (.ifCond .ne 11, 3) := by decide +kernel
theorem dX6_shelf_23 : decode cX6_shelf 23 = .ok (.aload_n 0, 1) := by decide +kernel
theorem dX6_shelf_24 : decode cX6_shelf 24 = .ok (.iload_n 3, 1) := by decide +kernel
theorem dX6_shelf_25 : decode cX6_shelf 25 = .ok (.invokevirtual 168, 3) := by decide +kernel
theorem dX6_shelf_28 : decode cX6_shelf 28 = .ok (.ifCond .eq 15, 3) := by decide +kernel
theorem dX6_shelf_31 : decode cX6_shelf 31 = .ok (.iload_n 2, 1) := by decide +kernel
theorem dX6_shelf_32 : decode cX6_shelf 32 = .ok (.iconst 1, 1) := by decide +kernel
theorem dX6_shelf_33 : decode cX6_shelf 33 = .ok (.if_icmp .ne 12, 3) := by decide +kernel
theorem dX6_shelf_36 : decode cX6_shelf 36 = .ok (.iload_n 3, 1) := by decide +kernel
theorem dX6_shelf_37 : decode cX6_shelf 37 = .ok (.invokestatic 246, 3) := by decide +kernel
theorem dX6_shelf_40 : decode cX6_shelf 40 = .ok (.ifCond .ne 5, 3) := by decide +kernel
theorem dX6_shelf_43 : decode cX6_shelf 43 = .ok (.iconst (-1), 1) := by decide +kernel
theorem dX6_shelf_44 : decode cX6_shelf 44 = .ok (.ireturn, 1) := by decide +kernel
theorem dX6_shelf_45 : decode cX6_shelf 45 = .ok (.iload_n 2, 1) := by decide +kernel
theorem dX6_shelf_46 : decode cX6_shelf 46 = .ok (.iconst 1, 1) := by decide +kernel
theorem dX6_shelf_47 : decode cX6_shelf 47 = .ok (.if_icmp .ne 16, 3) := by decide +kernel
theorem dX6_shelf_50 : decode cX6_shelf 50 = .ok (.aload_n 0, 1) := by decide +kernel
theorem dX6_shelf_51 : decode cX6_shelf 51 = .ok (.getfield 31, 3) := by decide +kernel
theorem dX6_shelf_54 : decode cX6_shelf 54 = .ok (.iload_n 3, 1) := by decide +kernel
theorem dX6_shelf_55 : decode cX6_shelf 55 = .ok (.iaload, 1) := by decide +kernel
theorem dX6_shelf_56 : decode cX6_shelf 56 = .ok (.ifCond .lt 7, 3) := by decide +kernel
theorem dX6_shelf_59 : decode cX6_shelf 59 = .ok (.iconst 1, 1) := by decide +kernel
theorem dX6_shelf_60 : decode cX6_shelf 60 = .ok (.goto 4, 3) := by decide +kernel
theorem dX6_shelf_63 : decode cX6_shelf 63 = .ok (.iconst 0, 1) := by decide +kernel
theorem dX6_shelf_64 : decode cX6_shelf 64 = .ok (.istore 4, 2) := by decide +kernel
theorem dX6_shelf_66 : decode cX6_shelf 66 = .ok (.aload_n 0, 1) := by decide +kernel
theorem dX6_shelf_67 : decode cX6_shelf 67 = .ok (.getfield 40, 3) := by decide +kernel
theorem dX6_shelf_70 : decode cX6_shelf 70 = .ok (.iload_n 1, 1) := by decide +kernel
theorem dX6_shelf_71 : decode cX6_shelf 71 = .ok (.iload_n 2, 1) := by decide +kernel
theorem dX6_shelf_72 : decode cX6_shelf 72 = .ok (.ifCond .ne 7, 3) := by decide +kernel
theorem dX6_shelf_75 : decode cX6_shelf 75 = .ok (.iconst 1, 1) := by decide +kernel
theorem dX6_shelf_76 : decode cX6_shelf 76 = .ok (.goto 13, 3) := by decide +kernel
theorem dX6_shelf_79 : decode cX6_shelf 79 = .ok (.iload 4, 2) := by decide +kernel
theorem dX6_shelf_81 : decode cX6_shelf 81 = .ok (.ifCond .eq 7, 3) := by decide +kernel
theorem dX6_shelf_84 : decode cX6_shelf 84 = .ok (.iconst 2, 1) := by decide +kernel
theorem dX6_shelf_85 : decode cX6_shelf 85 = .ok (.goto 4, 3) := by decide +kernel
theorem dX6_shelf_88 : decode cX6_shelf 88 = .ok (.iconst 0, 1) := by decide +kernel
theorem dX6_shelf_89 : decode cX6_shelf 89 = .ok (.iastore, 1) := by decide +kernel
theorem dX6_shelf_90 : decode cX6_shelf 90 = .ok (.aload_n 0, 1) := by decide +kernel
theorem dX6_shelf_91 : decode cX6_shelf 91 = .ok (.getfield 43, 3) := by decide +kernel
theorem dX6_shelf_94 : decode cX6_shelf 94 = .ok (.iload_n 1, 1) := by decide +kernel
theorem dX6_shelf_95 : decode cX6_shelf 95 = .ok (.iload_n 2, 1) := by decide +kernel
theorem dX6_shelf_96 : decode cX6_shelf 96 = .ok (.ifCond .ne 7, 3) := by decide +kernel
theorem dX6_shelf_99 : decode cX6_shelf 99 = .ok (.iload_n 3, 1) := by decide +kernel
theorem dX6_shelf_100 : decode cX6_shelf 100 = .ok (.goto 18, 3) := by decide +kernel
theorem dX6_shelf_103 : decode cX6_shelf 103 = .ok (.iload 4, 2) := by decide +kernel
theorem dX6_shelf_105 : decode cX6_shelf 105 = .ok (.ifCond .eq 12, 3) := by decide +kernel
theorem dX6_shelf_108 : decode cX6_shelf 108 = .ok (.aload_n 0, 1) := by decide +kernel
theorem dX6_shelf_109 : decode cX6_shelf 109 = .ok (.getfield 31, 3) := by decide +kernel
theorem dX6_shelf_112 : decode cX6_shelf 112 = .ok (.iload_n 3, 1) := by decide +kernel
theorem dX6_shelf_113 : decode cX6_shelf 113 = .ok (.iaload, 1) := by decide +kernel
theorem dX6_shelf_114 : decode cX6_shelf 114 = .ok (.goto 4, 3) := by decide +kernel
theorem dX6_shelf_117 : decode cX6_shelf 117 = .ok (.iconst 0, 1) := by decide +kernel
theorem dX6_shelf_118 : decode cX6_shelf 118 = .ok (.iastore, 1) := by decide +kernel
theorem dX6_shelf_119 : decode cX6_shelf 119 = .ok (.aload_n 0, 1) := by decide +kernel
theorem dX6_shelf_120 : decode cX6_shelf 120 = .ok (.getfield 46, 3) := by decide +kernel
theorem dX6_shelf_123 : decode cX6_shelf 123 = .ok (.iload_n 1, 1) := by decide +kernel
theorem dX6_shelf_124 : decode cX6_shelf 124 = .ok (.iload 4, 2) := by decide +kernel
theorem dX6_shelf_126 : decode cX6_shelf 126 = .ok (.ifCond .eq 12, 3) := by decide +kernel
theorem dX6_shelf_129 : decode cX6_shelf 129 = .ok (.aload_n 0, 1) := by decide +kernel
theorem dX6_shelf_130 : decode cX6_shelf 130 = .ok (.getfield 34, 3) := by decide +kernel
theorem dX6_shelf_133 : decode cX6_shelf 133 = .ok (.iload_n 3, 1) := by decide +kernel
theorem dX6_shelf_134 : decode cX6_shelf 134 = .ok (.iaload, 1) := by decide +kernel
theorem dX6_shelf_135 : decode cX6_shelf 135 = .ok (.goto 4, 3) := by decide +kernel
theorem dX6_shelf_138 : decode cX6_shelf 138 = .ok (.iconst 0, 1) := by decide +kernel
theorem dX6_shelf_139 : decode cX6_shelf 139 = .ok (.iastore, 1) := by decide +kernel
theorem dX6_shelf_140 : decode cX6_shelf 140 = .ok (.iconst 1, 1) := by decide +kernel
theorem dX6_shelf_141 : decode cX6_shelf 141 = .ok (.ireturn, 1) := by decide +kernel
set_option maxHeartbeats 400000 in
set_option maxRecDepth 20000 in
theorem t_X6_shelf (l : Launch) (ad : Nat → Nat) (D : va_G) (cs : Nat → ClassId) (h : Nat → Nat) (σ : Nat → Nat → Int32) (pre post : va_W) (n : Nat) (g w k : Int32) (hN : σ 0 0 = nI n) (hn : n ≤ 8) : CTi l yX6_shelf cX6_shelf 5 .int ({ frames := 2, cells := 0, slots := 0, locals := 45 }) ad D (tysW cs) (pre ++ (wM cs h σ ++ post)) [.ref (h 0), .int g, .int w, .int k] (gateI (shlB n g w k) 1 (-1)) (pre ++ (wM cs h (su (su (su σ 18 (gateF (shlB n g w k) (upd (σ 18) g.toNatClampNeg (if w = 0 then 1 else if shlR (σ 15) w k = true then 2 else 0)) (σ 18))) 19 (gateF (shlB n g w k) (upd (σ 19) g.toNatClampNeg (if w = 0 then k else if shlR (σ 15) w k = true then σ 15 k.toNatClampNeg else 0)) (σ 19))) 20 (gateF (shlB n g w k) (upd (σ 20) g.toNatClampNeg (if shlR (σ 15) w k = true then σ 16 k.toNatClampNeg else 0)) (σ 20))) ++ post)) := by
  refine CTi.of (lv0 := [(0, .ref (h 0)), (1, .int g), (2, .int w), (3, .int k)]) (by decide) rfl (Nat.le_of_ble_eq_true rfl) (fun p e s m args below meth c A C hr hlk => ?_)
  have C : Cx p s m args c cX6_shelf 5 RX6 ad D (tysW cs) A := C
  refine r_iload_n (pc := 0) C 1 dX6_shelf_0 rfl rfl ?_
  refine rc_Si (pc := 1) C (t_X6_isShelf l ad D (tysW cs) (wM cs h σ) pre post  g ) ms_X6_isShelf ml_RX6_274 rfl ⟨Nat.le_of_ble_eq_true rfl, Nat.le_of_ble_eq_true rfl⟩ ⟨rfl, rfl⟩ rfl rfl rfl (Nat.le_of_ble_eq_true rfl) dX6_shelf_1 ?_
  refine r_if_eq (pc := 4) C 43 dX6_shelf_4 (by decide) (fun c_1 => ?_) (fun c_1 => ?_)
  · skip
    have c_1 := bI_0.mp c_1
    refine r_iconst (pc := 43) C (-1) dX6_shelf_43 (by decide) ?_
    exact r_iret (pc := 44) C hr hlk dX6_shelf_44 rfl (by first | rfl | (simp [gateI, gateF, shlB, shlR, *]; done) | simp_all [gateI, gateF, shlB, shlR]) (by rw [show (gateF (shlB n g w k) (upd (σ 18) g.toNatClampNeg (if w = 0 then 1 else if shlR (σ 15) w k = true then 2 else 0)) (σ 18) : Nat → Int32) = σ 18 from (by first | rfl | (simp [gateI, gateF, shlB, shlR, *]; done) | simp_all [gateI, gateF, shlB, shlR]), show (gateF (shlB n g w k) (upd (σ 19) g.toNatClampNeg (if w = 0 then k else if shlR (σ 15) w k = true then σ 15 k.toNatClampNeg else 0)) (σ 19) : Nat → Int32) = σ 19 from (by first | rfl | (simp [gateI, gateF, shlB, shlR, *]; done) | simp_all [gateI, gateF, shlB, shlR]), show (gateF (shlB n g w k) (upd (σ 20) g.toNatClampNeg (if shlR (σ 15) w k = true then σ 16 k.toNatClampNeg else 0)) (σ 20) : Nat → Int32) = σ 20 from (by first | rfl | (simp [gateI, gateF, shlB, shlR, *]; done) | simp_all [gateI, gateF, shlB, shlR])] <;> rfl)
  · skip
    have c_1 := bI_n.mp c_1
    obtain ⟨f, l_f, h_f, rfl⟩ := rng_nat 0 3 (by decide) (by decide) c_1
    have e_f : (nI f).toNatClampNeg = f := nI_clamp (by omega)
    refine r_iload_n (pc := 7) C 2 dX6_shelf_7 rfl rfl ?_
    refine r_i2l (pc := 8) C dX6_shelf_8 ?_
    refine r_lconst (pc := 9) C 0 dX6_shelf_9 (by decide) ?_
    refine r_ldc2 (pc := 10) C dX6_shelf_10 cn_RX6_266 ?_
    refine rc_Si (pc := 13) C (t_X6_isIn l ad D (tysW cs) (wM cs h σ) pre post  w (0 : Int32) (2 : Int32) ) ms_X6_isIn ml_RX6_57 rfl ⟨Nat.le_of_ble_eq_true rfl, Nat.le_of_ble_eq_true rfl⟩ ⟨rfl, rfl⟩ rfl rfl rfl (Nat.le_of_ble_eq_true rfl) dX6_shelf_13 ?_
    refine r_if_eq (pc := 16) C 43 dX6_shelf_16 (by decide) (fun c_2 => ?_) (fun c_2 => ?_)
    · skip
      have c_2 := bI_0.mp c_2
      refine r_iconst (pc := 43) C (-1) dX6_shelf_43 (by decide) ?_
      exact r_iret (pc := 44) C hr hlk dX6_shelf_44 rfl (by first | rfl | (simp [gateI, gateF, shlB, shlR, *]; done) | simp_all [gateI, gateF, shlB, shlR]) (by rw [show (gateF (shlB n (nI f) w k) (upd (σ 18) (nI f).toNatClampNeg (if w = 0 then 1 else if shlR (σ 15) w k = true then 2 else 0)) (σ 18) : Nat → Int32) = σ 18 from (by first | rfl | (simp [gateI, gateF, shlB, shlR, *]; done) | simp_all [gateI, gateF, shlB, shlR]), show (gateF (shlB n (nI f) w k) (upd (σ 19) (nI f).toNatClampNeg (if w = 0 then k else if shlR (σ 15) w k = true then σ 15 k.toNatClampNeg else 0)) (σ 19) : Nat → Int32) = σ 19 from (by first | rfl | (simp [gateI, gateF, shlB, shlR, *]; done) | simp_all [gateI, gateF, shlB, shlR]), show (gateF (shlB n (nI f) w k) (upd (σ 20) (nI f).toNatClampNeg (if shlR (σ 15) w k = true then σ 16 k.toNatClampNeg else 0)) (σ 20) : Nat → Int32) = σ 20 from (by first | rfl | (simp [gateI, gateF, shlB, shlR, *]; done) | simp_all [gateI, gateF, shlB, shlR])] <;> rfl)
    · skip
      have c_2 := bI_n.mp c_2
      refine r_iload_n (pc := 19) C 2 dX6_shelf_19 rfl rfl ?_
      refine r_if_ne (pc := 20) C 31 dX6_shelf_20 (by decide) (fun c_3 => ?_) (fun c_3 => ?_)
      · skip
        refine r_iload_n (pc := 31) C 2 dX6_shelf_31 rfl rfl ?_
        refine r_iconst (pc := 32) C 1 dX6_shelf_32 (by decide) ?_
        refine r_icmp_ne (pc := 33) C 45 dX6_shelf_33 (by decide) (fun c_4 => ?_) (fun c_4 => ?_)
        · skip
          refine r_iload_n (pc := 45) C 2 dX6_shelf_45 rfl rfl ?_
          refine r_iconst (pc := 46) C 1 dX6_shelf_46 (by decide) ?_
          refine r_icmp_ne (pc := 47) C 63 dX6_shelf_47 (by decide) (fun c_5 => ?_) (fun c_5 => ?_)
          · skip
            refine r_iconst (pc := 63) C 0 dX6_shelf_63 (by decide) ?_
            refine r_istore (pc := 64) C [(4, .int 0), (0, .ref (h 0)), (1, .int (nI f)), (2, .int w), (3, .int k)] dX6_shelf_64 (by decide) rfl ?_
            refine r_aload_n (pc := 66) C 1 dX6_shelf_66 rfl rfl ?_
            refine mg_holdsWhat (pc := 67) C fl_RX6_40 dX6_shelf_67 ?_
            refine r_iload_n (pc := 70) C 2 dX6_shelf_70 rfl rfl ?_
            refine r_iload_n (pc := 71) C 3 dX6_shelf_71 rfl rfl ?_
            refine r_if_ne (pc := 72) C 79 dX6_shelf_72 (by decide) (fun c_6 => ?_) (fun c_6 => ?_)
            · skip
              refine r_iload (pc := 79) C 0 dX6_shelf_79 rfl ?_
              refine r_if_eq (pc := 81) C 88 dX6_shelf_81 (by decide) (fun c_7 => ?_) (fun c_7 => ?_)
              · skip
                revert c_7; intro c_7
                refine r_iconst (pc := 88) C 0 dX6_shelf_88 (by decide) ?_
                refine as_holdsWhat (pc := 89) C f (rfl) (by omega) dX6_shelf_89 (σ 18) (rfl) ?_
                refine r_aload_n (pc := 90) C 1 dX6_shelf_90 rfl rfl ?_
                refine mg_holdsWhich (pc := 91) C fl_RX6_43 dX6_shelf_91 ?_
                refine r_iload_n (pc := 94) C 2 dX6_shelf_94 rfl rfl ?_
                refine r_iload_n (pc := 95) C 3 dX6_shelf_95 rfl rfl ?_
                refine r_if_ne (pc := 96) C 103 dX6_shelf_96 (by decide) (fun c_8 => ?_) (fun c_8 => ?_)
                · skip
                  refine r_iload (pc := 103) C 0 dX6_shelf_103 rfl ?_
                  refine r_if_eq (pc := 105) C 117 dX6_shelf_105 (by decide) (fun c_9 => ?_) (fun c_9 => ?_)
                  · skip
                    revert c_9; intro c_9
                    refine r_iconst (pc := 117) C 0 dX6_shelf_117 (by decide) ?_
                    refine as_holdsWhich (pc := 118) C f (rfl) (by omega) dX6_shelf_118 (σ 19) ((su_nn (by decide))) ?_
                    refine r_aload_n (pc := 119) C 1 dX6_shelf_119 rfl rfl ?_
                    refine mg_holdsMany (pc := 120) C fl_RX6_46 dX6_shelf_120 ?_
                    refine r_iload_n (pc := 123) C 2 dX6_shelf_123 rfl rfl ?_
                    refine r_iload (pc := 124) C 0 dX6_shelf_124 rfl ?_
                    refine r_if_eq (pc := 126) C 138 dX6_shelf_126 (by decide) (fun c_10 => ?_) (fun c_10 => ?_)
                    · skip
                      revert c_10; intro c_10
                      refine r_iconst (pc := 138) C 0 dX6_shelf_138 (by decide) ?_
                      refine as_holdsMany (pc := 139) C f (rfl) (by omega) dX6_shelf_139 (σ 20) (((su_nn (by decide)).trans (su_nn (by decide)))) ?_
                      refine r_iconst (pc := 140) C 1 dX6_shelf_140 (by decide) ?_
                      exact r_iret (pc := 141) C hr hlk dX6_shelf_141 rfl (by first | rfl | (simp [gateI, gateF, shlB, shlR, *]; done) | simp_all [gateI, gateF, shlB, shlR]) (by rw [show (gateF (shlB n (nI f) w k) (upd (σ 18) (nI f).toNatClampNeg (if w = 0 then 1 else if shlR (σ 15) w k = true then 2 else 0)) (σ 18) : Nat → Int32) = upd (σ 18) f 0 from (by first | rfl | (simp [gateI, gateF, shlB, shlR, *]; done) | simp_all [gateI, gateF, shlB, shlR]), show (gateF (shlB n (nI f) w k) (upd (σ 19) (nI f).toNatClampNeg (if w = 0 then k else if shlR (σ 15) w k = true then σ 15 k.toNatClampNeg else 0)) (σ 19) : Nat → Int32) = upd (σ 19) f 0 from (by first | rfl | (simp [gateI, gateF, shlB, shlR, *]; done) | simp_all [gateI, gateF, shlB, shlR]), show (gateF (shlB n (nI f) w k) (upd (σ 20) (nI f).toNatClampNeg (if shlR (σ 15) w k = true then σ 16 k.toNatClampNeg else 0)) (σ 20) : Nat → Int32) = upd (σ 20) f 0 from (by first | rfl | (simp [gateI, gateF, shlB, shlR, *]; done) | simp_all [gateI, gateF, shlB, shlR])] <;> rfl)
                    · skip
                      revert c_10; intro c_10
                      exact absurd c_10 (by decide)
                  · skip
                    revert c_9; intro c_9
                    exact absurd c_9 (by decide)
                · skip
                  exact absurd c_8 (by assumption)
              · skip
                revert c_7; intro c_7
                exact absurd c_7 (by decide)
            · skip
              exact absurd c_6 (by assumption)
          · skip
            exact absurd c_5 (by assumption)
        · skip
          subst c_4
          refine r_iload_n (pc := 36) C 3 dX6_shelf_36 rfl rfl ?_
          refine rc_Si (pc := 37) C (t_X6_isSheet l ad D (tysW cs) (wM cs h σ) pre post  k ) ms_X6_isSheet ml_RX6_246 rfl ⟨Nat.le_of_ble_eq_true rfl, Nat.le_of_ble_eq_true rfl⟩ ⟨rfl, rfl⟩ rfl rfl rfl (Nat.le_of_ble_eq_true rfl) dX6_shelf_37 ?_
          refine r_if_ne (pc := 40) C 45 dX6_shelf_40 (by decide) (fun c_11 => ?_) (fun c_11 => ?_)
          · skip
            have c_11 := bI_n.mp c_11
            obtain ⟨j, l_j, h_j, rfl⟩ := rng_nat 0 3 (by decide) (by decide) c_11
            have e_j : (nI j).toNatClampNeg = j := nI_clamp (by omega)
            refine r_iload_n (pc := 45) C 2 dX6_shelf_45 rfl rfl ?_
            refine r_iconst (pc := 46) C 1 dX6_shelf_46 (by decide) ?_
            refine r_icmp_ne (pc := 47) C 63 dX6_shelf_47 (by decide) (fun c_12 => ?_) (fun c_12 => ?_)
            · skip
              revert c_12; intro c_12
              exact absurd c_12 (by decide)
            · skip
              revert c_12; intro c_12
              refine r_aload_n (pc := 50) C 0 dX6_shelf_50 rfl rfl ?_
              refine mg_sortOf (pc := 51) C fl_RX6_31 dX6_shelf_51 ?_
              refine r_iload_n (pc := 54) C 3 dX6_shelf_54 rfl rfl ?_
              refine al_sortOf (pc := 55) C j (rfl) (by omega) dX6_shelf_55 (σ 15 j) rfl ?_
              refine r_if_lt (pc := 56) C 63 dX6_shelf_56 (by decide) (fun c_13 => ?_) (fun c_13 => ?_)
              · skip
                refine r_iconst (pc := 63) C 0 dX6_shelf_63 (by decide) ?_
                refine r_istore (pc := 64) C [(4, .int 0), (0, .ref (h 0)), (1, .int (nI f)), (2, .int 1), (3, .int (nI j))] dX6_shelf_64 (by decide) rfl ?_
                refine r_aload_n (pc := 66) C 1 dX6_shelf_66 rfl rfl ?_
                refine mg_holdsWhat (pc := 67) C fl_RX6_40 dX6_shelf_67 ?_
                refine r_iload_n (pc := 70) C 2 dX6_shelf_70 rfl rfl ?_
                refine r_iload_n (pc := 71) C 3 dX6_shelf_71 rfl rfl ?_
                refine r_if_ne (pc := 72) C 79 dX6_shelf_72 (by decide) (fun c_14 => ?_) (fun c_14 => ?_)
                · skip
                  revert c_14; intro c_14
                  refine r_iload (pc := 79) C 0 dX6_shelf_79 rfl ?_
                  refine r_if_eq (pc := 81) C 88 dX6_shelf_81 (by decide) (fun c_15 => ?_) (fun c_15 => ?_)
                  · skip
                    revert c_15; intro c_15
                    refine r_iconst (pc := 88) C 0 dX6_shelf_88 (by decide) ?_
                    refine as_holdsWhat (pc := 89) C f (rfl) (by omega) dX6_shelf_89 (σ 18) (rfl) ?_
                    refine r_aload_n (pc := 90) C 1 dX6_shelf_90 rfl rfl ?_
                    refine mg_holdsWhich (pc := 91) C fl_RX6_43 dX6_shelf_91 ?_
                    refine r_iload_n (pc := 94) C 2 dX6_shelf_94 rfl rfl ?_
                    refine r_iload_n (pc := 95) C 3 dX6_shelf_95 rfl rfl ?_
                    refine r_if_ne (pc := 96) C 103 dX6_shelf_96 (by decide) (fun c_16 => ?_) (fun c_16 => ?_)
                    · skip
                      revert c_16; intro c_16
                      refine r_iload (pc := 103) C 0 dX6_shelf_103 rfl ?_
                      refine r_if_eq (pc := 105) C 117 dX6_shelf_105 (by decide) (fun c_17 => ?_) (fun c_17 => ?_)
                      · skip
                        revert c_17; intro c_17
                        refine r_iconst (pc := 117) C 0 dX6_shelf_117 (by decide) ?_
                        refine as_holdsWhich (pc := 118) C f (rfl) (by omega) dX6_shelf_118 (σ 19) ((su_nn (by decide))) ?_
                        refine r_aload_n (pc := 119) C 1 dX6_shelf_119 rfl rfl ?_
                        refine mg_holdsMany (pc := 120) C fl_RX6_46 dX6_shelf_120 ?_
                        refine r_iload_n (pc := 123) C 2 dX6_shelf_123 rfl rfl ?_
                        refine r_iload (pc := 124) C 0 dX6_shelf_124 rfl ?_
                        refine r_if_eq (pc := 126) C 138 dX6_shelf_126 (by decide) (fun c_18 => ?_) (fun c_18 => ?_)
                        · skip
                          revert c_18; intro c_18
                          refine r_iconst (pc := 138) C 0 dX6_shelf_138 (by decide) ?_
                          refine as_holdsMany (pc := 139) C f (rfl) (by omega) dX6_shelf_139 (σ 20) (((su_nn (by decide)).trans (su_nn (by decide)))) ?_
                          refine r_iconst (pc := 140) C 1 dX6_shelf_140 (by decide) ?_
                          exact r_iret (pc := 141) C hr hlk dX6_shelf_141 rfl (by first | rfl | (simp [gateI, gateF, shlB, shlR, *]; done) | simp_all [gateI, gateF, shlB, shlR]) (by rw [show (gateF (shlB n (nI f) (1 : Int32) (nI j)) (upd (σ 18) (nI f).toNatClampNeg (if (1 : Int32) = 0 then 1 else if shlR (σ 15) (1 : Int32) (nI j) = true then 2 else 0)) (σ 18) : Nat → Int32) = upd (σ 18) f 0 from (by first | rfl | (simp [gateI, gateF, shlB, shlR, *]; done) | simp_all [gateI, gateF, shlB, shlR]), show (gateF (shlB n (nI f) (1 : Int32) (nI j)) (upd (σ 19) (nI f).toNatClampNeg (if (1 : Int32) = 0 then (nI j) else if shlR (σ 15) (1 : Int32) (nI j) = true then σ 15 (nI j).toNatClampNeg else 0)) (σ 19) : Nat → Int32) = upd (σ 19) f 0 from (by first | rfl | (simp [gateI, gateF, shlB, shlR, *]; done) | simp_all [gateI, gateF, shlB, shlR]), show (gateF (shlB n (nI f) (1 : Int32) (nI j)) (upd (σ 20) (nI f).toNatClampNeg (if shlR (σ 15) (1 : Int32) (nI j) = true then σ 16 (nI j).toNatClampNeg else 0)) (σ 20) : Nat → Int32) = upd (σ 20) f 0 from (by first | rfl | (simp [gateI, gateF, shlB, shlR, *]; done) | simp_all [gateI, gateF, shlB, shlR])] <;> rfl)
                        · skip
                          revert c_18; intro c_18
                          exact absurd c_18 (by decide)
                      · skip
                        revert c_17; intro c_17
                        exact absurd c_17 (by decide)
                    · skip
                      revert c_16; intro c_16
                      exact absurd c_16 (by decide)
                  · skip
                    revert c_15; intro c_15
                    exact absurd c_15 (by decide)
                · skip
                  revert c_14; intro c_14
                  exact absurd c_14 (by decide)
              · skip
                refine r_iconst (pc := 59) C 1 dX6_shelf_59 (by decide) ?_
                refine r_goto (pc := 60) C 64 dX6_shelf_60 (by decide) ?_
                refine r_istore (pc := 64) C [(4, .int 1), (0, .ref (h 0)), (1, .int (nI f)), (2, .int 1), (3, .int (nI j))] dX6_shelf_64 (by decide) rfl ?_
                refine r_aload_n (pc := 66) C 1 dX6_shelf_66 rfl rfl ?_
                refine mg_holdsWhat (pc := 67) C fl_RX6_40 dX6_shelf_67 ?_
                refine r_iload_n (pc := 70) C 2 dX6_shelf_70 rfl rfl ?_
                refine r_iload_n (pc := 71) C 3 dX6_shelf_71 rfl rfl ?_
                refine r_if_ne (pc := 72) C 79 dX6_shelf_72 (by decide) (fun c_19 => ?_) (fun c_19 => ?_)
                · skip
                  revert c_19; intro c_19
                  refine r_iload (pc := 79) C 0 dX6_shelf_79 rfl ?_
                  refine r_if_eq (pc := 81) C 88 dX6_shelf_81 (by decide) (fun c_20 => ?_) (fun c_20 => ?_)
                  · skip
                    revert c_20; intro c_20
                    exact absurd c_20 (by decide)
                  · skip
                    revert c_20; intro c_20
                    refine r_iconst (pc := 84) C 2 dX6_shelf_84 (by decide) ?_
                    refine r_goto (pc := 85) C 89 dX6_shelf_85 (by decide) ?_
                    refine as_holdsWhat (pc := 89) C f (rfl) (by omega) dX6_shelf_89 (σ 18) (rfl) ?_
                    refine r_aload_n (pc := 90) C 1 dX6_shelf_90 rfl rfl ?_
                    refine mg_holdsWhich (pc := 91) C fl_RX6_43 dX6_shelf_91 ?_
                    refine r_iload_n (pc := 94) C 2 dX6_shelf_94 rfl rfl ?_
                    refine r_iload_n (pc := 95) C 3 dX6_shelf_95 rfl rfl ?_
                    refine r_if_ne (pc := 96) C 103 dX6_shelf_96 (by decide) (fun c_21 => ?_) (fun c_21 => ?_)
                    · skip
                      revert c_21; intro c_21
                      refine r_iload (pc := 103) C 0 dX6_shelf_103 rfl ?_
                      refine r_if_eq (pc := 105) C 117 dX6_shelf_105 (by decide) (fun c_22 => ?_) (fun c_22 => ?_)
                      · skip
                        revert c_22; intro c_22
                        exact absurd c_22 (by decide)
                      · skip
                        revert c_22; intro c_22
                        refine r_aload_n (pc := 108) C 1 dX6_shelf_108 rfl rfl ?_
                        refine mg_sortOf (pc := 109) C fl_RX6_31 dX6_shelf_109 ?_
                        refine r_iload_n (pc := 112) C 4 dX6_shelf_112 rfl rfl ?_
                        refine al_sortOf (pc := 113) C j (rfl) (by omega) dX6_shelf_113 (σ 15 j) (congrFun ((su_nn (by decide))) _) ?_
                        refine r_goto (pc := 114) C 118 dX6_shelf_114 (by decide) ?_
                        refine as_holdsWhich (pc := 118) C f (rfl) (by omega) dX6_shelf_118 (σ 19) ((su_nn (by decide))) ?_
                        refine r_aload_n (pc := 119) C 1 dX6_shelf_119 rfl rfl ?_
                        refine mg_holdsMany (pc := 120) C fl_RX6_46 dX6_shelf_120 ?_
                        refine r_iload_n (pc := 123) C 2 dX6_shelf_123 rfl rfl ?_
                        refine r_iload (pc := 124) C 0 dX6_shelf_124 rfl ?_
                        refine r_if_eq (pc := 126) C 138 dX6_shelf_126 (by decide) (fun c_23 => ?_) (fun c_23 => ?_)
                        · skip
                          revert c_23; intro c_23
                          exact absurd c_23 (by decide)
                        · skip
                          revert c_23; intro c_23
                          refine r_aload_n (pc := 129) C 1 dX6_shelf_129 rfl rfl ?_
                          refine mg_sizeOf (pc := 130) C fl_RX6_34 dX6_shelf_130 ?_
                          refine r_iload_n (pc := 133) C 4 dX6_shelf_133 rfl rfl ?_
                          refine al_sizeOf (pc := 134) C j (rfl) (by omega) dX6_shelf_134 (σ 16 j) (congrFun (((su_nn (by decide)).trans (su_nn (by decide)))) _) ?_
                          refine r_goto (pc := 135) C 139 dX6_shelf_135 (by decide) ?_
                          refine as_holdsMany (pc := 139) C f (rfl) (by omega) dX6_shelf_139 (σ 20) (((su_nn (by decide)).trans (su_nn (by decide)))) ?_
                          refine r_iconst (pc := 140) C 1 dX6_shelf_140 (by decide) ?_
                          exact r_iret (pc := 141) C hr hlk dX6_shelf_141 rfl (by first | rfl | (simp [gateI, gateF, shlB, shlR, *]; done) | simp_all [gateI, gateF, shlB, shlR]) (by rw [show (gateF (shlB n (nI f) (1 : Int32) (nI j)) (upd (σ 18) (nI f).toNatClampNeg (if (1 : Int32) = 0 then 1 else if shlR (σ 15) (1 : Int32) (nI j) = true then 2 else 0)) (σ 18) : Nat → Int32) = upd (σ 18) f 2 from (by first | rfl | (simp [gateI, gateF, shlB, shlR, *]; done) | simp_all [gateI, gateF, shlB, shlR]), show (gateF (shlB n (nI f) (1 : Int32) (nI j)) (upd (σ 19) (nI f).toNatClampNeg (if (1 : Int32) = 0 then (nI j) else if shlR (σ 15) (1 : Int32) (nI j) = true then σ 15 (nI j).toNatClampNeg else 0)) (σ 19) : Nat → Int32) = upd (σ 19) f (σ 15 j) from (by first | rfl | (simp [gateI, gateF, shlB, shlR, *]; done) | simp_all [gateI, gateF, shlB, shlR]), show (gateF (shlB n (nI f) (1 : Int32) (nI j)) (upd (σ 20) (nI f).toNatClampNeg (if shlR (σ 15) (1 : Int32) (nI j) = true then σ 16 (nI j).toNatClampNeg else 0)) (σ 20) : Nat → Int32) = upd (σ 20) f (σ 16 j) from (by first | rfl | (simp [gateI, gateF, shlB, shlR, *]; done) | simp_all [gateI, gateF, shlB, shlR])] <;> rfl)
                    · skip
                      revert c_21; intro c_21
                      exact absurd c_21 (by decide)
                · skip
                  revert c_19; intro c_19
                  exact absurd c_19 (by decide)
          · skip
            have c_11 := bI_0.mp c_11
            refine r_iconst (pc := 43) C (-1) dX6_shelf_43 (by decide) ?_
            exact r_iret (pc := 44) C hr hlk dX6_shelf_44 rfl (by first | rfl | (simp [gateI, gateF, shlB, shlR, *]; done) | simp_all [gateI, gateF, shlB, shlR]) (by rw [show (gateF (shlB n (nI f) (1 : Int32) k) (upd (σ 18) (nI f).toNatClampNeg (if (1 : Int32) = 0 then 1 else if shlR (σ 15) (1 : Int32) k = true then 2 else 0)) (σ 18) : Nat → Int32) = σ 18 from (by first | rfl | (simp [gateI, gateF, shlB, shlR, *]; done) | simp_all [gateI, gateF, shlB, shlR]), show (gateF (shlB n (nI f) (1 : Int32) k) (upd (σ 19) (nI f).toNatClampNeg (if (1 : Int32) = 0 then k else if shlR (σ 15) (1 : Int32) k = true then σ 15 k.toNatClampNeg else 0)) (σ 19) : Nat → Int32) = σ 19 from (by first | rfl | (simp [gateI, gateF, shlB, shlR, *]; done) | simp_all [gateI, gateF, shlB, shlR]), show (gateF (shlB n (nI f) (1 : Int32) k) (upd (σ 20) (nI f).toNatClampNeg (if shlR (σ 15) (1 : Int32) k = true then σ 16 k.toNatClampNeg else 0)) (σ 20) : Nat → Int32) = σ 20 from (by first | rfl | (simp [gateI, gateF, shlB, shlR, *]; done) | simp_all [gateI, gateF, shlB, shlR])] <;> rfl)
      · skip
        subst c_3
        refine r_aload_n (pc := 23) C 0 dX6_shelf_23 rfl rfl ?_
        refine r_iload_n (pc := 24) C 3 dX6_shelf_24 rfl rfl ?_
        refine rc_Vi (pc := 25) C (t_X6_isOne' l ad D cs h σ pre post (σ 0) (rfl) n k hN hn) mv_X6_isOne ml_RX6_168 rfl ⟨Nat.le_of_ble_eq_true rfl, Nat.le_of_ble_eq_true rfl⟩ ⟨rfl, rfl⟩ (q0 := 0) rfl rfl rfl rfl rfl rfl (Nat.le_of_ble_eq_true rfl) dX6_shelf_25 ?_
        refine r_if_eq (pc := 28) C 43 dX6_shelf_28 (by decide) (fun c_24 => ?_) (fun c_24 => ?_)
        · skip
          have c_24 := bI_0.mp c_24
          refine r_iconst (pc := 43) C (-1) dX6_shelf_43 (by decide) ?_
          exact r_iret (pc := 44) C hr hlk dX6_shelf_44 rfl (by first | rfl | (simp [gateI, gateF, shlB, shlR, *]; done) | simp_all [gateI, gateF, shlB, shlR]) (by rw [show (gateF (shlB n (nI f) (0 : Int32) k) (upd (σ 18) (nI f).toNatClampNeg (if (0 : Int32) = 0 then 1 else if shlR (σ 15) (0 : Int32) k = true then 2 else 0)) (σ 18) : Nat → Int32) = σ 18 from (by first | rfl | (simp [gateI, gateF, shlB, shlR, *]; done) | simp_all [gateI, gateF, shlB, shlR]), show (gateF (shlB n (nI f) (0 : Int32) k) (upd (σ 19) (nI f).toNatClampNeg (if (0 : Int32) = 0 then k else if shlR (σ 15) (0 : Int32) k = true then σ 15 k.toNatClampNeg else 0)) (σ 19) : Nat → Int32) = σ 19 from (by first | rfl | (simp [gateI, gateF, shlB, shlR, *]; done) | simp_all [gateI, gateF, shlB, shlR]), show (gateF (shlB n (nI f) (0 : Int32) k) (upd (σ 20) (nI f).toNatClampNeg (if shlR (σ 15) (0 : Int32) k = true then σ 16 k.toNatClampNeg else 0)) (σ 20) : Nat → Int32) = σ 20 from (by first | rfl | (simp [gateI, gateF, shlB, shlR, *]; done) | simp_all [gateI, gateF, shlB, shlR])] <;> rfl)
        · skip
          have c_24 := bI_n.mp c_24
          obtain ⟨j, h_j, rfl⟩ := one_nat (by omega) c_24
          have e_j : (nI j).toNatClampNeg = j := nI_clamp (by omega)
          refine r_iload_n (pc := 31) C 2 dX6_shelf_31 rfl rfl ?_
          refine r_iconst (pc := 32) C 1 dX6_shelf_32 (by decide) ?_
          refine r_icmp_ne (pc := 33) C 45 dX6_shelf_33 (by decide) (fun c_25 => ?_) (fun c_25 => ?_)
          · skip
            revert c_25; intro c_25
            refine r_iload_n (pc := 45) C 2 dX6_shelf_45 rfl rfl ?_
            refine r_iconst (pc := 46) C 1 dX6_shelf_46 (by decide) ?_
            refine r_icmp_ne (pc := 47) C 63 dX6_shelf_47 (by decide) (fun c_26 => ?_) (fun c_26 => ?_)
            · skip
              revert c_26; intro c_26
              refine r_iconst (pc := 63) C 0 dX6_shelf_63 (by decide) ?_
              refine r_istore (pc := 64) C [(4, .int 0), (0, .ref (h 0)), (1, .int (nI f)), (2, .int 0), (3, .int (nI j))] dX6_shelf_64 (by decide) rfl ?_
              refine r_aload_n (pc := 66) C 1 dX6_shelf_66 rfl rfl ?_
              refine mg_holdsWhat (pc := 67) C fl_RX6_40 dX6_shelf_67 ?_
              refine r_iload_n (pc := 70) C 2 dX6_shelf_70 rfl rfl ?_
              refine r_iload_n (pc := 71) C 3 dX6_shelf_71 rfl rfl ?_
              refine r_if_ne (pc := 72) C 79 dX6_shelf_72 (by decide) (fun c_27 => ?_) (fun c_27 => ?_)
              · skip
                revert c_27; intro c_27
                exact absurd c_27 (by decide)
              · skip
                revert c_27; intro c_27
                refine r_iconst (pc := 75) C 1 dX6_shelf_75 (by decide) ?_
                refine r_goto (pc := 76) C 89 dX6_shelf_76 (by decide) ?_
                refine as_holdsWhat (pc := 89) C f (rfl) (by omega) dX6_shelf_89 (σ 18) (rfl) ?_
                refine r_aload_n (pc := 90) C 1 dX6_shelf_90 rfl rfl ?_
                refine mg_holdsWhich (pc := 91) C fl_RX6_43 dX6_shelf_91 ?_
                refine r_iload_n (pc := 94) C 2 dX6_shelf_94 rfl rfl ?_
                refine r_iload_n (pc := 95) C 3 dX6_shelf_95 rfl rfl ?_
                refine r_if_ne (pc := 96) C 103 dX6_shelf_96 (by decide) (fun c_28 => ?_) (fun c_28 => ?_)
                · skip
                  revert c_28; intro c_28
                  exact absurd c_28 (by decide)
                · skip
                  revert c_28; intro c_28
                  refine r_iload_n (pc := 99) C 4 dX6_shelf_99 rfl rfl ?_
                  refine r_goto (pc := 100) C 118 dX6_shelf_100 (by decide) ?_
                  refine as_holdsWhich (pc := 118) C f (rfl) (by omega) dX6_shelf_118 (σ 19) ((su_nn (by decide))) ?_
                  refine r_aload_n (pc := 119) C 1 dX6_shelf_119 rfl rfl ?_
                  refine mg_holdsMany (pc := 120) C fl_RX6_46 dX6_shelf_120 ?_
                  refine r_iload_n (pc := 123) C 2 dX6_shelf_123 rfl rfl ?_
                  refine r_iload (pc := 124) C 0 dX6_shelf_124 rfl ?_
                  refine r_if_eq (pc := 126) C 138 dX6_shelf_126 (by decide) (fun c_29 => ?_) (fun c_29 => ?_)
                  · skip
                    revert c_29; intro c_29
                    refine r_iconst (pc := 138) C 0 dX6_shelf_138 (by decide) ?_
                    refine as_holdsMany (pc := 139) C f (rfl) (by omega) dX6_shelf_139 (σ 20) (((su_nn (by decide)).trans (su_nn (by decide)))) ?_
                    refine r_iconst (pc := 140) C 1 dX6_shelf_140 (by decide) ?_
                    exact r_iret (pc := 141) C hr hlk dX6_shelf_141 rfl (by first | rfl | (simp [gateI, gateF, shlB, shlR, *]; done) | simp_all [gateI, gateF, shlB, shlR]) (by rw [show (gateF (shlB n (nI f) (0 : Int32) (nI j)) (upd (σ 18) (nI f).toNatClampNeg (if (0 : Int32) = 0 then 1 else if shlR (σ 15) (0 : Int32) (nI j) = true then 2 else 0)) (σ 18) : Nat → Int32) = upd (σ 18) f 1 from (by first | rfl | (simp [gateI, gateF, shlB, shlR, *]; done) | simp_all [gateI, gateF, shlB, shlR]), show (gateF (shlB n (nI f) (0 : Int32) (nI j)) (upd (σ 19) (nI f).toNatClampNeg (if (0 : Int32) = 0 then (nI j) else if shlR (σ 15) (0 : Int32) (nI j) = true then σ 15 (nI j).toNatClampNeg else 0)) (σ 19) : Nat → Int32) = upd (σ 19) f (nI j) from (by first | rfl | (simp [gateI, gateF, shlB, shlR, *]; done) | simp_all [gateI, gateF, shlB, shlR]), show (gateF (shlB n (nI f) (0 : Int32) (nI j)) (upd (σ 20) (nI f).toNatClampNeg (if shlR (σ 15) (0 : Int32) (nI j) = true then σ 16 (nI j).toNatClampNeg else 0)) (σ 20) : Nat → Int32) = upd (σ 20) f 0 from (by first | rfl | (simp [gateI, gateF, shlB, shlR, *]; done) | simp_all [gateI, gateF, shlB, shlR])] <;> rfl)
                  · skip
                    revert c_29; intro c_29
                    exact absurd c_29 (by decide)
            · skip
              revert c_26; intro c_26
              exact absurd c_26 (by decide)
          · skip
            revert c_25; intro c_25
            exact absurd c_25 (by decide)
theorem t_X6_shelf' (l : Launch) (ad : Nat → Nat) (D : va_G) (cs : Nat → ClassId) (h : Nat → Nat) (σ : Nat → Nat → Int32) (pre post : va_W) (f0_ : Nat → Int32) (e0_ : σ 0 = f0_) (f15_ : Nat → Int32) (e15_ : σ 15 = f15_) (f16_ : Nat → Int32) (e16_ : σ 16 = f16_) (f18_ : Nat → Int32) (e18_ : σ 18 = f18_) (f19_ : Nat → Int32) (e19_ : σ 19 = f19_) (f20_ : Nat → Int32) (e20_ : σ 20 = f20_) (n : Nat) (g w k : Int32) (hN : f0_ 0 = nI n) (hn : n ≤ 8) : CTi l yX6_shelf cX6_shelf 5 .int ({ frames := 2, cells := 0, slots := 0, locals := 45 }) ad D (tysW cs) (pre ++ (wM cs h σ ++ post)) [.ref (h 0), .int g, .int w, .int k] (gateI (shlB n g w k) 1 (-1)) (pre ++ (wM cs h (su (su (su σ 18 (gateF (shlB n g w k) (upd (f18_) g.toNatClampNeg (if w = 0 then 1 else if shlR (f15_) w k = true then 2 else 0)) (f18_))) 19 (gateF (shlB n g w k) (upd (f19_) g.toNatClampNeg (if w = 0 then k else if shlR (f15_) w k = true then f15_ k.toNatClampNeg else 0)) (f19_))) 20 (gateF (shlB n g w k) (upd (f20_) g.toNatClampNeg (if shlR (f15_) w k = true then f16_ k.toNatClampNeg else 0)) (f20_))) ++ post)) := by
  subst e0_; subst e15_; subst e16_; subst e18_; subst e19_; subst e20_
  exact t_X6_shelf l ad D cs h σ pre post n g w k hN hn
theorem dX6_taken_0 : decode cX6_taken 0 = .ok (.iload_n 1, 1) := by decide +kernel
theorem dX6_taken_1 : decode cX6_taken 1 = .ok (.invokestatic 274, 3) := by decide +kernel
theorem dX6_taken_4 : decode cX6_taken 4 = .ok (.ifCond .eq 29, 3) := by decide +kernel
theorem dX6_taken_7 : decode cX6_taken 7 = .ok (.iload_n 2, 1) := by decide +kernel
theorem dX6_taken_8 : decode cX6_taken 8 = .ok (.i2l, 1) := by decide +kernel
theorem dX6_taken_9 : decode cX6_taken 9 = .ok (.lconst 0, 1) := by decide +kernel
theorem dX6_taken_10 : decode cX6_taken 10 = .ok (.ldc2_w 277, 3) := by decide +kernel
theorem dX6_taken_13 : decode cX6_taken 13 = .ok (.invokestatic 57, 3) := by decide +kernel
theorem dX6_taken_16 : decode cX6_taken 16 = .ok (.ifCond .eq 17, 3) := by decide +kernel
theorem dX6_taken_19 : decode cX6_taken 19 = .ok (.iload_n 2, 1) := by decide +kernel
theorem dX6_taken_20 : decode cX6_taken 20 = .ok (.i2l, 1) := by decide +kernel
theorem dX6_taken_21 : decode cX6_taken 21 = .ok (.ldc2_w 279, 3) := by decide +kernel
theorem dX6_taken_24 : decode cX6_taken 24 = .ok (.ldc2_w 148, 3) := by decide +kernel
theorem dX6_taken_27 : decode cX6_taken 27 = .ok (.invokestatic 57, 3) := by decide +kernel
theorem dX6_taken_30 : decode cX6_taken 30 = .ok (.ifCond .eq 5, 3) := by decide +kernel
theorem dX6_taken_33 : decode cX6_taken 33 = .ok (.iconst (-1), 1) := by decide +kernel
theorem dX6_taken_34 : decode cX6_taken 34 = .ok (.ireturn, 1) := by decide +kernel
theorem dX6_taken_35 : decode cX6_taken 35 = .ok (.aload_n 0, 1) := by decide +kernel
theorem dX6_taken_36 : decode cX6_taken 36 = .ok (.iload_n 1, 1) := by decide +kernel
theorem dX6_taken_37 : decode cX6_taken 37 = .ok (.invokevirtual 281, 3) := by decide +kernel
theorem dX6_taken_40 : decode cX6_taken 40 = .ok (.istore_n 3, 1) := by decide +kernel
theorem dX6_taken_41 : decode cX6_taken 41 = .ok (.iload_n 3, 1) := by decide +kernel
theorem dX6_taken_42 : decode cX6_taken 42 = .ok (.ifCond .ne 6, 3) := by decide +kernel
theorem dX6_taken_45 : decode cX6_taken 45 = .ok (.bipush (-11), 2) := by decide +kernel
theorem dX6_taken_47 : decode cX6_taken 47 = .ok (.ireturn, 1) := by decide +kernel
theorem dX6_taken_48 : decode cX6_taken 48 = .ok (.iload_n 2, 1) := by decide +kernel
theorem dX6_taken_49 : decode cX6_taken 49 = .ok (.bipush 10, 2) := by decide +kernel
theorem dX6_taken_51 : decode cX6_taken 51 = .ok (.if_icmp .ge 38, 3) := by decide +kernel
theorem dX6_taken_54 : decode cX6_taken 54 = .ok (.iload_n 3, 1) := by decide +kernel
theorem dX6_taken_55 : decode cX6_taken 55 = .ok (.iconst 1, 1) := by decide +kernel
theorem dX6_taken_56 : decode cX6_taken 56 = .ok (.if_icmp .ne 30, 3) := by decide +kernel
theorem dX6_taken_59 : decode cX6_taken 59 = .ok (.aload_n 0, 1) := by decide +kernel
theorem dX6_taken_60 : decode cX6_taken 60 = .ok (.aload_n 0, 1) := by decide +kernel
theorem dX6_taken_61 : decode cX6_taken 61 = .ok (.getfield 43, 3) := by decide +kernel
theorem dX6_taken_64 : decode cX6_taken 64 = .ok (.iload_n 1, 1) := by decide +kernel
theorem dX6_taken_65 : decode cX6_taken 65 = .ok (.iaload, 1) := by decide +kernel
theorem dX6_taken_66 : decode cX6_taken 66 = .ok (.iconst 0, 1) := by decide +kernel
theorem dX6_taken_67 : decode cX6_taken 67 = .ok (.invokevirtual 156, 3) := by decide +kernel
theorem dX6_taken_70 : decode cX6_taken 70 = .ok (.iload_n 2, 1) := by decide +kernel
theorem dX6_taken_71 : decode cX6_taken 71 = .ok (.invokestatic 284, 3) := by decide +kernel
theorem dX6_taken_74 : decode cX6_taken 74 = .ok (.ifCond .eq 12, 3) := by decide +kernel
theorem dX6_taken_77 : decode cX6_taken 77 = .ok (.aload_n 0, 1) := by decide +kernel
theorem dX6_taken_78 : decode cX6_taken 78 = .ok (.getfield 43, 3) := by decide +kernel
theorem dX6_taken_81 : decode cX6_taken 81 = .ok (.iload_n 1, 1) := by decide +kernel
theorem dX6_taken_82 : decode cX6_taken 82 = .ok (.iaload, 1) := by decide +kernel
theorem dX6_taken_83 : decode cX6_taken 83 = .ok (.goto 5, 3) := by decide +kernel
theorem dX6_taken_86 : decode cX6_taken 86 = .ok (.bipush (-13), 2) := by decide +kernel
theorem dX6_taken_88 : decode cX6_taken 88 = .ok (.ireturn, 1) := by decide +kernel
theorem dX6_taken_89 : decode cX6_taken 89 = .ok (.iload_n 3, 1) := by decide +kernel
theorem dX6_taken_90 : decode cX6_taken 90 = .ok (.iconst 2, 1) := by decide +kernel
theorem dX6_taken_91 : decode cX6_taken 91 = .ok (.if_icmp .ne 25, 3) := by decide +kernel
theorem dX6_taken_94 : decode cX6_taken 94 = .ok (.aload_n 0, 1) := by decide +kernel
theorem dX6_taken_95 : decode cX6_taken 95 = .ok (.getfield 43, 3) := by decide +kernel
theorem dX6_taken_98 : decode cX6_taken 98 = .ok (.iload_n 1, 1) := by decide +kernel
theorem dX6_taken_99 : decode cX6_taken 99 = .ok (.iaload, 1) := by decide +kernel
theorem dX6_taken_100 : decode cX6_taken 100 = .ok (.iload_n 2, 1) := by decide +kernel
theorem dX6_taken_101 : decode cX6_taken 101 = .ok (.bipush 10, 2) := by decide +kernel
theorem dX6_taken_103 : decode cX6_taken 103 = .ok (.isub, 1) := by decide +kernel
theorem dX6_taken_104 : decode cX6_taken 104 = .ok (.if_icmp .ne 12, 3) := by decide +kernel
theorem dX6_taken_107 : decode cX6_taken 107 = .ok (.aload_n 0, 1) := by decide +kernel
theorem dX6_taken_108 : decode cX6_taken 108 = .ok (.getfield 46, 3) := by decide +kernel
theorem dX6_taken_111 : decode cX6_taken 111 = .ok (.iload_n 1, 1) := by decide +kernel
theorem dX6_taken_112 : decode cX6_taken 112 = .ok (.iaload, 1) := by decide +kernel
theorem dX6_taken_113 : decode cX6_taken 113 = .ok (.goto 5, 3) := by decide +kernel
theorem dX6_taken_116 : decode cX6_taken 116 = .ok (.bipush (-13), 2) := by decide +kernel
theorem dX6_taken_118 : decode cX6_taken 118 = .ok (.ireturn, 1) := by decide +kernel
set_option maxHeartbeats 400000 in
set_option maxRecDepth 20000 in
theorem t_X6_taken (l : Launch) (ad : Nat → Nat) (D : va_G) (cs : Nat → ClassId) (h : Nat → Nat) (σ : Nat → Nat → Int32) (pre post : va_W) (n : Nat) (g x : Int32) (hN : σ 0 0 = nI n) (hn : n ≤ 8) : CTi l yX6_taken cX6_taken 4 .int ({ frames := 2, cells := 0, slots := 0, locals := 45 }) ad D (tysW cs) (pre ++ (wM cs h σ ++ post)) [.ref (h 0), .int g, .int x] (gateI (inB g 0 3 && (inB x 0 13 && !(inB x 6 9))) (tkA n (σ 0) (σ 18) (σ 19) (σ 20) g.toNatClampNeg x) (-1)) (pre ++ (wM cs h σ ++ post)) := by
  refine CTi.of (lv0 := [(0, .ref (h 0)), (1, .int g), (2, .int x)]) (by decide) rfl (Nat.le_of_ble_eq_true rfl) (fun p e s m args below meth c A C hr hlk => ?_)
  have C : Cx p s m args c cX6_taken 4 RX6 ad D (tysW cs) A := C
  refine r_iload_n (pc := 0) C 1 dX6_taken_0 rfl rfl ?_
  refine rc_Si (pc := 1) C (t_X6_isShelf l ad D (tysW cs) (wM cs h σ) pre post  g ) ms_X6_isShelf ml_RX6_274 rfl ⟨Nat.le_of_ble_eq_true rfl, Nat.le_of_ble_eq_true rfl⟩ ⟨rfl, rfl⟩ rfl rfl rfl (Nat.le_of_ble_eq_true rfl) dX6_taken_1 ?_
  refine r_if_eq (pc := 4) C 33 dX6_taken_4 (by decide) (fun c_1 => ?_) (fun c_1 => ?_)
  · skip
    have c_1 := bI_0.mp c_1
    refine r_iconst (pc := 33) C (-1) dX6_taken_33 (by decide) ?_
    exact r_iret (pc := 34) C hr hlk dX6_taken_34 rfl (by first | rfl | (simp [gateI, gateF, tkA, *]; done) | simp_all [gateI, gateF, tkA]) rfl
  · skip
    have c_1 := bI_n.mp c_1
    obtain ⟨f, l_f, h_f, rfl⟩ := rng_nat 0 3 (by decide) (by decide) c_1
    have e_f : (nI f).toNatClampNeg = f := nI_clamp (by omega)
    refine r_iload_n (pc := 7) C 2 dX6_taken_7 rfl rfl ?_
    refine r_i2l (pc := 8) C dX6_taken_8 ?_
    refine r_lconst (pc := 9) C 0 dX6_taken_9 (by decide) ?_
    refine r_ldc2 (pc := 10) C dX6_taken_10 cn_RX6_277 ?_
    refine rc_Si (pc := 13) C (t_X6_isIn l ad D (tysW cs) (wM cs h σ) pre post  x (0 : Int32) (13 : Int32) ) ms_X6_isIn ml_RX6_57 rfl ⟨Nat.le_of_ble_eq_true rfl, Nat.le_of_ble_eq_true rfl⟩ ⟨rfl, rfl⟩ rfl rfl rfl (Nat.le_of_ble_eq_true rfl) dX6_taken_13 ?_
    refine r_if_eq (pc := 16) C 33 dX6_taken_16 (by decide) (fun c_2 => ?_) (fun c_2 => ?_)
    · skip
      have c_2 := bI_0.mp c_2
      refine r_iconst (pc := 33) C (-1) dX6_taken_33 (by decide) ?_
      exact r_iret (pc := 34) C hr hlk dX6_taken_34 rfl (by first | rfl | (simp [gateI, gateF, tkA, *]; done) | simp_all [gateI, gateF, tkA]) rfl
    · skip
      have c_2 := bI_n.mp c_2
      refine r_iload_n (pc := 19) C 2 dX6_taken_19 rfl rfl ?_
      refine r_i2l (pc := 20) C dX6_taken_20 ?_
      refine r_ldc2 (pc := 21) C dX6_taken_21 cn_RX6_279 ?_
      refine r_ldc2 (pc := 24) C dX6_taken_24 cn_RX6_148 ?_
      refine rc_Si (pc := 27) C (t_X6_isIn l ad D (tysW cs) (wM cs h σ) pre post  x (6 : Int32) (9 : Int32) ) ms_X6_isIn ml_RX6_57 rfl ⟨Nat.le_of_ble_eq_true rfl, Nat.le_of_ble_eq_true rfl⟩ ⟨rfl, rfl⟩ rfl rfl rfl (Nat.le_of_ble_eq_true rfl) dX6_taken_27 ?_
      refine r_if_eq (pc := 30) C 35 dX6_taken_30 (by decide) (fun c_3 => ?_) (fun c_3 => ?_)
      · skip
        have c_3 := bI_0.mp c_3
        refine r_aload_n (pc := 35) C 0 dX6_taken_35 rfl rfl ?_
        refine r_iload_n (pc := 36) C 1 dX6_taken_36 rfl rfl ?_
        refine rc_Vi (pc := 37) C (t_X6_heldOn' l ad D cs h σ pre post (σ 0) (rfl) (σ 18) (rfl) (σ 19) (rfl) n f hN hn (by omega)) mv_X6_heldOn ml_RX6_281 rfl ⟨Nat.le_of_ble_eq_true rfl, Nat.le_of_ble_eq_true rfl⟩ ⟨rfl, rfl⟩ (q0 := 0) rfl rfl rfl rfl rfl rfl (Nat.le_of_ble_eq_true rfl) dX6_taken_37 ?_
        refine r_istore_n (pc := 40) C [(3, .int (hoF n (σ 18) (σ 19) f)), (0, .ref (h 0)), (1, .int (nI f)), (2, .int x)] dX6_taken_40 rfl (by decide) rfl ?_
        refine r_iload_n (pc := 41) C 0 dX6_taken_41 rfl rfl ?_
        refine r_if_ne (pc := 42) C 48 dX6_taken_42 (by decide) (fun c_4 => ?_) (fun c_4 => ?_)
        · skip
          refine r_iload_n (pc := 48) C 3 dX6_taken_48 rfl rfl ?_
          refine r_bipush (pc := 49) C 10 dX6_taken_49 (by decide) ?_
          refine r_icmp_ge (pc := 51) C 89 dX6_taken_51 (by decide) (fun c_5 => ?_) (fun c_5 => ?_)
          · skip
            refine r_iload_n (pc := 89) C 0 dX6_taken_89 rfl rfl ?_
            refine r_iconst (pc := 90) C 2 dX6_taken_90 (by decide) ?_
            refine r_icmp_ne (pc := 91) C 116 dX6_taken_91 (by decide) (fun c_6 => ?_) (fun c_6 => ?_)
            · skip
              refine r_bipush (pc := 116) C (-13) dX6_taken_116 (by decide) ?_
              exact r_iret (pc := 118) C hr hlk dX6_taken_118 rfl (by first | rfl | (simp [gateI, gateF, tkA, *]; done) | simp_all [gateI, gateF, tkA]) rfl
            · skip
              refine r_aload_n (pc := 94) C 1 dX6_taken_94 rfl rfl ?_
              refine mg_holdsWhich (pc := 95) C fl_RX6_43 dX6_taken_95 ?_
              refine r_iload_n (pc := 98) C 2 dX6_taken_98 rfl rfl ?_
              refine al_holdsWhich (pc := 99) C f (rfl) (by omega) dX6_taken_99 (σ 19 f) rfl ?_
              refine r_iload_n (pc := 100) C 3 dX6_taken_100 rfl rfl ?_
              refine r_bipush (pc := 101) C 10 dX6_taken_101 (by decide) ?_
              refine r_isub (pc := 103) C dX6_taken_103 ?_
              refine r_icmp_ne (pc := 104) C 116 dX6_taken_104 (by decide) (fun c_7 => ?_) (fun c_7 => ?_)
              · skip
                refine r_bipush (pc := 116) C (-13) dX6_taken_116 (by decide) ?_
                exact r_iret (pc := 118) C hr hlk dX6_taken_118 rfl (by first | rfl | (simp [gateI, gateF, tkA, *]; done) | simp_all [gateI, gateF, tkA]) rfl
              · skip
                refine r_aload_n (pc := 107) C 1 dX6_taken_107 rfl rfl ?_
                refine mg_holdsMany (pc := 108) C fl_RX6_46 dX6_taken_108 ?_
                refine r_iload_n (pc := 111) C 2 dX6_taken_111 rfl rfl ?_
                refine al_holdsMany (pc := 112) C f (rfl) (by omega) dX6_taken_112 (σ 20 f) rfl ?_
                refine r_goto (pc := 113) C 118 dX6_taken_113 (by decide) ?_
                exact r_iret (pc := 118) C hr hlk dX6_taken_118 rfl (by first | rfl | (simp [gateI, gateF, tkA, *]; done) | simp_all [gateI, gateF, tkA]) rfl
          · skip
            refine r_iload_n (pc := 54) C 0 dX6_taken_54 rfl rfl ?_
            refine r_iconst (pc := 55) C 1 dX6_taken_55 (by decide) ?_
            refine r_icmp_ne (pc := 56) C 86 dX6_taken_56 (by decide) (fun c_8 => ?_) (fun c_8 => ?_)
            · skip
              refine r_bipush (pc := 86) C (-13) dX6_taken_86 (by decide) ?_
              exact r_iret (pc := 88) C hr hlk dX6_taken_88 rfl (by first | rfl | (simp [gateI, gateF, tkA, *]; done) | simp_all [gateI, gateF, tkA]) rfl
            · skip
              obtain ⟨j, h_j, e_q⟩ := one_nat (by omega) (ho_1 c_8)
              have e_j : (nI j).toNatClampNeg = j := nI_clamp (by omega)
              refine r_aload_n (pc := 59) C 1 dX6_taken_59 rfl rfl ?_
              refine r_aload_n (pc := 60) C 1 dX6_taken_60 rfl rfl ?_
              refine mg_holdsWhich (pc := 61) C fl_RX6_43 dX6_taken_61 ?_
              refine r_iload_n (pc := 64) C 2 dX6_taken_64 rfl rfl ?_
              refine al_holdsWhich (pc := 65) C f (rfl) (by omega) dX6_taken_65 (σ 19 f) rfl ?_
              refine r_eqi (y := nI j) (e_q) ?_
              refine r_iconst (pc := 66) C 0 dX6_taken_66 (by decide) ?_
              refine rc_Vi (pc := 67) C (t_X6_its' l ad D cs h σ pre post (σ 0) (rfl) j 0 (by omega) (by omega)) mv_X6_its ml_RX6_156 rfl ⟨Nat.le_of_ble_eq_true rfl, Nat.le_of_ble_eq_true rfl⟩ ⟨rfl, rfl⟩ (q0 := 0) rfl rfl rfl rfl rfl rfl (Nat.le_of_ble_eq_true rfl) dX6_taken_67 ?_
              refine r_eqi (y := σ 0 (8 + 5 * j)) rfl ?_
              refine r_iload_n (pc := 70) C 3 dX6_taken_70 rfl rfl ?_
              refine rc_Si (pc := 71) C (t_X6_isUnder l ad D (tysW cs) (wM cs h σ) pre post  (σ 0 (8 + 5 * j)) x ) ms_X6_isUnder ml_RX6_284 rfl ⟨Nat.le_of_ble_eq_true rfl, Nat.le_of_ble_eq_true rfl⟩ ⟨rfl, rfl⟩ rfl rfl rfl (Nat.le_of_ble_eq_true rfl) dX6_taken_71 ?_
              refine r_if_eq (pc := 74) C 86 dX6_taken_74 (by decide) (fun c_9 => ?_) (fun c_9 => ?_)
              · skip
                have c_9 := bI_0.mp c_9
                refine r_bipush (pc := 86) C (-13) dX6_taken_86 (by decide) ?_
                exact r_iret (pc := 88) C hr hlk dX6_taken_88 rfl (by first | rfl | (simp [gateI, gateF, tkA, *]; done) | simp_all [gateI, gateF, tkA]) rfl
              · skip
                have c_9 := bI_n.mp c_9
                refine r_aload_n (pc := 77) C 1 dX6_taken_77 rfl rfl ?_
                refine mg_holdsWhich (pc := 78) C fl_RX6_43 dX6_taken_78 ?_
                refine r_iload_n (pc := 81) C 2 dX6_taken_81 rfl rfl ?_
                refine al_holdsWhich (pc := 82) C f (rfl) (by omega) dX6_taken_82 (σ 19 f) rfl ?_
                refine r_eqi (y := nI j) (e_q) ?_
                refine r_goto (pc := 83) C 88 dX6_taken_83 (by decide) ?_
                exact r_iret (pc := 88) C hr hlk dX6_taken_88 rfl (by first | rfl | (simp [gateI, gateF, tkA, *]; done) | simp_all [gateI, gateF, tkA]) rfl
        · skip
          refine r_bipush (pc := 45) C (-11) dX6_taken_45 (by decide) ?_
          exact r_iret (pc := 47) C hr hlk dX6_taken_47 rfl (by first | rfl | (simp [gateI, gateF, tkA, *]; done) | simp_all [gateI, gateF, tkA]) rfl
      · skip
        have c_3 := bI_n.mp c_3
        refine r_iconst (pc := 33) C (-1) dX6_taken_33 (by decide) ?_
        exact r_iret (pc := 34) C hr hlk dX6_taken_34 rfl (by first | rfl | (simp [gateI, gateF, tkA, *]; done) | simp_all [gateI, gateF, tkA]) rfl
theorem t_X6_taken' (l : Launch) (ad : Nat → Nat) (D : va_G) (cs : Nat → ClassId) (h : Nat → Nat) (σ : Nat → Nat → Int32) (pre post : va_W) (f0_ : Nat → Int32) (e0_ : σ 0 = f0_) (f18_ : Nat → Int32) (e18_ : σ 18 = f18_) (f19_ : Nat → Int32) (e19_ : σ 19 = f19_) (f20_ : Nat → Int32) (e20_ : σ 20 = f20_) (n : Nat) (g x : Int32) (hN : f0_ 0 = nI n) (hn : n ≤ 8) : CTi l yX6_taken cX6_taken 4 .int ({ frames := 2, cells := 0, slots := 0, locals := 45 }) ad D (tysW cs) (pre ++ (wM cs h σ ++ post)) [.ref (h 0), .int g, .int x] (gateI (inB g 0 3 && (inB x 0 13 && !(inB x 6 9))) (tkA n f0_ (f18_) (f19_) (f20_) g.toNatClampNeg x) (-1)) (pre ++ (wM cs h σ ++ post)) := by
  subst e0_; subst e18_; subst e19_; subst e20_
  exact t_X6_taken l ad D cs h σ pre post n g x hN hn
theorem dX6_many_0 : decode cX6_many 0 = .ok (.iconst 0, 1) := by decide +kernel
theorem dX6_many_1 : decode cX6_many 1 = .ok (.istore_n 2, 1) := by decide +kernel
theorem dX6_many_2 : decode cX6_many 2 = .ok (.iload_n 1, 1) := by decide +kernel
theorem dX6_many_3 : decode cX6_many 3 = .ok (.tableswitch 144 0 6 #[41, 48, 56, 93, 129, 134, 139], 41) := by decide +kernel
theorem dX6_many_44 : decode cX6_many 44 = .ok (.aload_n 0, 1) := by decide +kernel
theorem dX6_many_45 : decode cX6_many 45 = .ok (.getfield 7, 3) := by decide +kernel
theorem dX6_many_48 : decode cX6_many 48 = .ok (.iconst 0, 1) := by decide +kernel
theorem dX6_many_49 : decode cX6_many 49 = .ok (.iaload, 1) := by decide +kernel
theorem dX6_many_50 : decode cX6_many 50 = .ok (.ireturn, 1) := by decide +kernel
theorem dX6_many_51 : decode cX6_many 51 = .ok (.aload_n 0, 1) := by decide +kernel
theorem dX6_many_52 : decode cX6_many 52 = .ok (.invokevirtual 222, 3) := by decide +kernel
theorem dX6_many_55 : decode cX6_many 55 = .ok (.invokestatic 219, 3) := by decide +kernel
theorem dX6_many_58 : decode cX6_many 58 = .ok (.ireturn, 1) := by decide +kernel
theorem dX6_many_59 : decode cX6_many 59 = .ok (.iconst 0, 1) := by decide +kernel
theorem dX6_many_60 : decode cX6_many 60 = .ok (.istore_n 3, 1) := by decide +kernel
theorem dX6_many_61 : decode cX6_many 61 = .ok (.iload_n 3, 1) := by decide +kernel
theorem dX6_many_62 : decode cX6_many 62 = .ok (.aload_n 0, 1) := by decide +kernel
theorem dX6_many_63 : decode cX6_many 63 = .ok (.getfield 7, 3) := by decide +kernel
theorem dX6_many_66 : decode cX6_many 66 = .ok (.iconst 0, 1) := by decide +kernel
theorem dX6_many_67 : decode cX6_many 67 = .ok (.iaload, 1) := by decide +kernel
theorem dX6_many_68 : decode cX6_many 68 = .ok (.if_icmp .ge 26, 3) := by decide +kernel
theorem dX6_many_71 : decode cX6_many 71 = .ok (.iload_n 2, 1) := by decide +kernel
theorem dX6_many_72 : decode cX6_many 72 = .ok (.aload_n 0, 1) := by decide +kernel
theorem dX6_many_73 : decode cX6_many 73 = .ok (.iload_n 3, 1) := by decide +kernel
theorem dX6_many_74 : decode cX6_many 74 = .ok (.iconst 4, 1) := by decide +kernel
theorem dX6_many_75 : decode cX6_many 75 = .ok (.invokevirtual 156, 3) := by decide +kernel
theorem dX6_many_78 : decode cX6_many 78 = .ok (.ifCond .le 7, 3) := by decide +kernel
theorem dX6_many_81 : decode cX6_many 81 = .ok (.iconst 1, 1) := by decide +kernel
theorem dX6_many_82 : decode cX6_many 82 = .ok (.goto 4, 3) := by decide +kernel
theorem dX6_many_85 : decode cX6_many 85 = .ok (.iconst 0, 1) := by decide +kernel
theorem dX6_many_86 : decode cX6_many 86 = .ok (.iadd, 1) := by decide +kernel
theorem dX6_many_87 : decode cX6_many 87 = .ok (.istore_n 2, 1) := by decide +kernel
theorem dX6_many_88 : decode cX6_many 88 = .ok (.iinc 3 1, 3) := by decide +kernel
theorem dX6_many_91 : decode cX6_many 91 = .ok (.goto (-30), 3) := by decide +kernel
theorem dX6_many_94 : decode cX6_many 94 = .ok (.iload_n 2, 1) := by decide +kernel
theorem dX6_many_95 : decode cX6_many 95 = .ok (.ireturn, 1) := by decide +kernel
theorem dX6_many_96 : decode cX6_many 96 = .ok (.iconst 0, 1) := by decide +kernel
theorem dX6_many_97 : decode cX6_many 97 = .ok (.istore_n 3, 1) := by decide +kernel
theorem dX6_many_98 : decode cX6_many 98 = .ok (.iload_n 3, 1) := by decide +kernel
theorem dX6_many_99 : decode cX6_many 99 = .ok (.aload_n 0, 1) := by decide +kernel
theorem dX6_many_100 : decode cX6_many 100 = .ok (.getfield 7, 3) := by decide +kernel
theorem dX6_many_103 : decode cX6_many 103 = .ok (.iconst 0, 1) := by decide +kernel
theorem dX6_many_104 : decode cX6_many 104 = .ok (.iaload, 1) := by decide +kernel
theorem dX6_many_105 : decode cX6_many 105 = .ok (.if_icmp .ge 25, 3) := by decide +kernel
theorem dX6_many_108 : decode cX6_many 108 = .ok (.iload_n 2, 1) := by decide +kernel
theorem dX6_many_109 : decode cX6_many 109 = .ok (.aload_n 0, 1) := by decide +kernel
theorem dX6_many_110 : decode cX6_many 110 = .ok (.iload_n 3, 1) := by decide +kernel
theorem dX6_many_111 : decode cX6_many 111 = .ok (.invokevirtual 162, 3) := by decide +kernel
theorem dX6_many_114 : decode cX6_many 114 = .ok (.ifCond .le 7, 3) := by decide +kernel
theorem dX6_many_117 : decode cX6_many 117 = .ok (.iconst 1, 1) := by decide +kernel
theorem dX6_many_118 : decode cX6_many 118 = .ok (.goto 4, 3) := by decide +kernel
theorem dX6_many_121 : decode cX6_many 121 = .ok (.iconst 0, 1) := by decide +kernel
theorem dX6_many_122 : decode cX6_many 122 = .ok (.iadd, 1) := by decide +kernel
theorem dX6_many_123 : decode cX6_many 123 = .ok (.istore_n 2, 1) := by decide +kernel
theorem dX6_many_124 : decode cX6_many 124 = .ok (.iinc 3 1, 3) := by decide +kernel
theorem dX6_many_127 : decode cX6_many 127 = .ok (.goto (-29), 3) := by decide +kernel
theorem dX6_many_130 : decode cX6_many 130 = .ok (.iload_n 2, 1) := by decide +kernel
theorem dX6_many_131 : decode cX6_many 131 = .ok (.ireturn, 1) := by decide +kernel
theorem dX6_many_132 : decode cX6_many 132 = .ok (.aload_n 0, 1) := by decide +kernel
theorem dX6_many_133 : decode cX6_many 133 = .ok (.getfield 141, 3) := by decide +kernel
theorem dX6_many_136 : decode cX6_many 136 = .ok (.ireturn, 1) := by decide +kernel
theorem dX6_many_137 : decode cX6_many 137 = .ok (.aload_n 0, 1) := by decide +kernel
theorem dX6_many_138 : decode cX6_many 138 = .ok (.getfield 61, 3) := by decide +kernel
theorem dX6_many_141 : decode cX6_many 141 = .ok (.ireturn, 1) := by decide +kernel
theorem dX6_many_142 : decode cX6_many 142 = .ok (.aload_n 0, 1) := by decide +kernel
theorem dX6_many_143 : decode cX6_many 143 = .ok (.getfield 287, 3) := by decide +kernel
theorem dX6_many_146 : decode cX6_many 146 = .ok (.ireturn, 1) := by decide +kernel
theorem dX6_many_147 : decode cX6_many 147 = .ok (.iconst (-1), 1) := by decide +kernel
theorem dX6_many_148 : decode cX6_many 148 = .ok (.ireturn, 1) := by decide +kernel
set_option maxHeartbeats 400000 in
set_option maxRecDepth 20000 in
theorem t_X6_many (l : Launch) (ad : Nat → Nat) (D : va_G) (cs : Nat → ClassId) (h : Nat → Nat) (σ : Nat → Nat → Int32) (pre post : va_W) (n r y t : Nat) (w : Int32) (hN : σ 0 0 = nI n) (hn : n ≤ 8) (hR : σ 22 0 = nI r) (hr0 : r ≤ 30) (hY : σ 14 0 = nI y) (hy0 : y ≤ 10) (hT : σ 6 0 = nI t) (ht : t ≤ 200) : CTi l yX6_many cX6_many 4 .int ({ frames := 2, cells := 0, slots := 0, locals := 44 }) ad D (tysW cs) (pre ++ (wM cs h σ ++ post)) [.ref (h 0), .int w] (maA n y t r (σ 0) w) (pre ++ (wM cs h σ ++ post)) := by
  refine CTi.of (lv0 := [(0, .ref (h 0)), (1, .int w)]) (by decide) rfl (Nat.le_of_ble_eq_true rfl) (fun p e s m args below meth c A C hr hlk => ?_)
  have C : Cx p s m args c cX6_many 4 RX6 ad D (tysW cs) A := C
  refine r_iconst (pc := 0) C 0 dX6_many_0 (by decide) ?_
  refine r_istore_n (pc := 1) C [(2, .int 0), (0, .ref (h 0)), (1, .int w)] dX6_many_1 rfl (by decide) rfl ?_
  refine r_iload_n (pc := 2) C 2 dX6_many_2 rfl rfl ?_
  have w_1 := sw_cases w 0 6 (by decide)
  rcases w_1 with w_1 | w_1
  · skip
    refine r_tableOut (pc := 3) C 41 147 dX6_many_3 w_1 (by decide) ?_
    have w_1_0 : ¬ w = 0 := fun q => by rw [q] at w_1; revert w_1; decide
    have w_1_1 : ¬ w = 1 := fun q => by rw [q] at w_1; revert w_1; decide
    have w_1_2 : ¬ w = 2 := fun q => by rw [q] at w_1; revert w_1; decide
    have w_1_3 : ¬ w = 3 := fun q => by rw [q] at w_1; revert w_1; decide
    have w_1_4 : ¬ w = 4 := fun q => by rw [q] at w_1; revert w_1; decide
    have w_1_5 : ¬ w = 5 := fun q => by rw [q] at w_1; revert w_1; decide
    have w_1_6 : ¬ w = 6 := fun q => by rw [q] at w_1; revert w_1; decide
    refine r_iconst (pc := 147) C (-1) dX6_many_147 (by decide) ?_
    exact r_iret (pc := 148) C hr hlk dX6_many_148 rfl (by simp [maA, *]) rfl
  · obtain ⟨i_1, hi_1, w_1⟩ := w_1
    have hc_1 : i_1 = 0 ∨ i_1 = 1 ∨ i_1 = 2 ∨ i_1 = 3 ∨ i_1 = 4 ∨ i_1 = 5 ∨ i_1 = 6 := by omega
    rcases hc_1 with rfl | rfl | rfl | rfl | rfl | rfl | rfl
    · skip
      refine r_tableIn (pc := 3) C 41 44 dX6_many_3 (by rw [w_1]; decide) (by rw [w_1]; decide) (by rw [w_1]; rfl) (by decide) ?_
      have w_1 : w = 0 := Int32.toInt_inj.mp (by rw [w_1]; rfl)
      refine r_aload_n (pc := 44) C 1 dX6_many_44 rfl rfl ?_
      refine mg_s (pc := 45) C fl_RX6_7 dX6_many_45 ?_
      refine r_iconst (pc := 48) C 0 dX6_many_48 (by decide) ?_
      refine al_s (pc := 49) C 0 (rfl) (by omega) dX6_many_49 (σ 0 0) rfl ?_
      refine r_eqi (y := nI n) (hN) ?_
      exact r_iret (pc := 50) C hr hlk dX6_many_50 rfl (by simp [maA, *]) rfl
    · skip
      refine r_tableIn (pc := 3) C 41 51 dX6_many_3 (by rw [w_1]; decide) (by rw [w_1]; decide) (by rw [w_1]; rfl) (by decide) ?_
      have w_1 : w = 1 := Int32.toInt_inj.mp (by rw [w_1]; rfl)
      refine r_aload_n (pc := 51) C 1 dX6_many_51 rfl rfl ?_
      refine rc_Vi (pc := 52) C (t_X6_onSteps' l ad D cs h σ pre post (σ 0) (rfl) n hN hn) mv_X6_onSteps ml_RX6_222 rfl ⟨Nat.le_of_ble_eq_true rfl, Nat.le_of_ble_eq_true rfl⟩ ⟨rfl, rfl⟩ (q0 := 0) rfl rfl rfl rfl rfl rfl (Nat.le_of_ble_eq_true rfl) dX6_many_52 ?_
      refine r_eqi (y := nI (onN (σ 0) n)) (onF_N _ _ (by omega)) ?_
      have h_f := onN_256 (m := σ 0) hn
      refine rc_Si (pc := 55) C (t_X6_size l ad D (tysW cs) (wM cs h σ) pre post  (onN (σ 0) n) (by omega)) ms_X6_size ml_RX6_219 rfl ⟨Nat.le_of_ble_eq_true rfl, Nat.le_of_ble_eq_true rfl⟩ ⟨rfl, rfl⟩ rfl rfl rfl (Nat.le_of_ble_eq_true rfl) dX6_many_55 ?_
      exact r_iret (pc := 58) C hr hlk dX6_many_58 rfl (by simp [maA, *]) rfl
    · skip
      refine r_tableIn (pc := 3) C 41 59 dX6_many_3 (by rw [w_1]; decide) (by rw [w_1]; decide) (by rw [w_1]; rfl) (by decide) ?_
      have w_1 : w = 2 := Int32.toInt_inj.mp (by rw [w_1]; rfl)
      refine r_iconst (pc := 59) C 0 dX6_many_59 (by decide) ?_
      refine r_istore_n (pc := 60) C [(3, .int 0), (2, .int 0), (0, .ref (h 0)), (1, .int w)] dX6_many_60 rfl (by decide) rfl ?_
      refine r_pick (lv' := [(0, .ref (h 0)), (1, .int w), (2, .int 0), (3, .int 0)]) [2, 3, 1, 0] rfl ?_
      refine r_lv (lv' := [(0, .ref (h 0)), (1, .int w), (2, .int (coN (σ 0) 0)), (3, .int 0)]) (rfl) ?_
      refine r_loop (blkf := fun i => wM cs h σ) (lvf := fun i => [(0, .ref (h 0)), (1, .int w), (2, .int (coN (σ 0) i)), (3, .int (nI i))]) (fun i => True) n 0 (by omega) (trivial) (fun i h_i _ ih => ?_)
      show VX p l e _ s m args below meth c _ D A 4 pre (wM cs h σ) post 61 [(0, .ref (h 0)), (1, .int w), (2, .int (coN (σ 0) i)), (3, .int (nI i))] []
      refine r_iload_n (pc := 61) C 3 dX6_many_61 rfl rfl ?_
      refine r_aload_n (pc := 62) C 0 dX6_many_62 rfl rfl ?_
      refine mg_s (pc := 63) C fl_RX6_7 dX6_many_63 ?_
      refine r_iconst (pc := 66) C 0 dX6_many_66 (by decide) ?_
      refine al_s (pc := 67) C 0 (rfl) (by omega) dX6_many_67 (σ 0 0) rfl ?_
      refine r_eqi (y := nI n) (hN) ?_
      refine r_icmp_ge (pc := 68) C 94 dX6_many_68 (by decide) (fun c_2 => ?_) (fun c_2 => ?_)
      · skip
        have c_2 := nIc_ge_t (a := i) (b := n) (by omega) (by omega) c_2
        obtain rfl : n = i := by omega
        refine r_iload_n (pc := 94) C 2 dX6_many_94 rfl rfl ?_
        exact r_iret (pc := 95) C hr hlk dX6_many_95 rfl (by simp [maA, *]) rfl
      · skip
        have c_2 := nIc_ge_f (a := i) (b := n) (by omega) (by omega) c_2
        refine r_iload_n (pc := 71) C 2 dX6_many_71 rfl rfl ?_
        refine r_aload_n (pc := 72) C 0 dX6_many_72 rfl rfl ?_
        refine r_iload_n (pc := 73) C 3 dX6_many_73 rfl rfl ?_
        refine r_iconst (pc := 74) C 4 dX6_many_74 (by decide) ?_
        refine rc_Vi (pc := 75) C (t_X6_its' l ad D cs h σ pre post (σ 0) (rfl) i 4 (by omega) (by omega)) mv_X6_its ml_RX6_156 rfl ⟨Nat.le_of_ble_eq_true rfl, Nat.le_of_ble_eq_true rfl⟩ ⟨rfl, rfl⟩ (q0 := 0) rfl rfl rfl rfl rfl rfl (Nat.le_of_ble_eq_true rfl) dX6_many_75 ?_
        refine r_if_le (pc := 78) C 85 dX6_many_78 (by decide) (fun c_3 => ?_) (fun c_3 => ?_)
        · skip
          refine r_iconst (pc := 85) C 0 dX6_many_85 (by decide) ?_
          refine r_iadd (pc := 86) C dX6_many_86 ?_
          refine r_istore_n (pc := 87) C [(2, .int ((coN (σ 0) i) + 0)), (0, .ref (h 0)), (1, .int w), (3, .int (nI i))] dX6_many_87 rfl (by decide) rfl ?_
          refine r_iinc (pc := 88) C (nI (i + 1)) 3 [(3, .int (nI (i + 1))), (2, .int ((coN (σ 0) i) + 0)), (0, .ref (h 0)), (1, .int w)] dX6_many_88 rfl (nI_1 _) (by decide) rfl ?_
          refine r_goto (pc := 91) C 61 dX6_many_91 (by decide) ?_
          refine r_pick (lv' := [(0, .ref (h 0)), (1, .int w), (2, .int ((coN (σ 0) i) + 0)), (3, .int (nI (i + 1)))]) [2, 3, 1, 0] rfl ?_
          refine r_lv (lv' := [(0, .ref (h 0)), (1, .int w), (2, .int (coN (σ 0) (i + 1))), (3, .int (nI (i + 1)))]) (lvc rfl (lvc rfl (lvc (congrArg Value.int (show ((coN (σ 0) i) + 0 : Int32) = coN (σ 0) (i + 1) from (by simp [coN, *]))) (lvc rfl rfl)))) ?_
          exact ih (by omega) (trivial)
        · skip
          refine r_iconst (pc := 81) C 1 dX6_many_81 (by decide) ?_
          refine r_goto (pc := 82) C 86 dX6_many_82 (by decide) ?_
          refine r_iadd (pc := 86) C dX6_many_86 ?_
          refine r_istore_n (pc := 87) C [(2, .int ((coN (σ 0) i) + 1)), (0, .ref (h 0)), (1, .int w), (3, .int (nI i))] dX6_many_87 rfl (by decide) rfl ?_
          refine r_iinc (pc := 88) C (nI (i + 1)) 3 [(3, .int (nI (i + 1))), (2, .int ((coN (σ 0) i) + 1)), (0, .ref (h 0)), (1, .int w)] dX6_many_88 rfl (nI_1 _) (by decide) rfl ?_
          refine r_goto (pc := 91) C 61 dX6_many_91 (by decide) ?_
          refine r_pick (lv' := [(0, .ref (h 0)), (1, .int w), (2, .int ((coN (σ 0) i) + 1)), (3, .int (nI (i + 1)))]) [2, 3, 1, 0] rfl ?_
          refine r_lv (lv' := [(0, .ref (h 0)), (1, .int w), (2, .int (coN (σ 0) (i + 1))), (3, .int (nI (i + 1)))]) (lvc rfl (lvc rfl (lvc (congrArg Value.int (show ((coN (σ 0) i) + 1 : Int32) = coN (σ 0) (i + 1) from (by simp [coN, *]))) (lvc rfl rfl)))) ?_
          exact ih (by omega) (trivial)
    · skip
      refine r_tableIn (pc := 3) C 41 96 dX6_many_3 (by rw [w_1]; decide) (by rw [w_1]; decide) (by rw [w_1]; rfl) (by decide) ?_
      have w_1 : w = 3 := Int32.toInt_inj.mp (by rw [w_1]; rfl)
      refine r_iconst (pc := 96) C 0 dX6_many_96 (by decide) ?_
      refine r_istore_n (pc := 97) C [(3, .int 0), (2, .int 0), (0, .ref (h 0)), (1, .int w)] dX6_many_97 rfl (by decide) rfl ?_
      refine r_pick (lv' := [(0, .ref (h 0)), (1, .int w), (2, .int 0), (3, .int 0)]) [2, 3, 1, 0] rfl ?_
      refine r_lv (lv' := [(0, .ref (h 0)), (1, .int w), (2, .int (weN (σ 0) 0)), (3, .int 0)]) (rfl) ?_
      refine r_loop (blkf := fun i => wM cs h σ) (lvf := fun i => [(0, .ref (h 0)), (1, .int w), (2, .int (weN (σ 0) i)), (3, .int (nI i))]) (fun i => True) n 0 (by omega) (trivial) (fun i h_i _ ih => ?_)
      show VX p l e _ s m args below meth c _ D A 4 pre (wM cs h σ) post 98 [(0, .ref (h 0)), (1, .int w), (2, .int (weN (σ 0) i)), (3, .int (nI i))] []
      refine r_iload_n (pc := 98) C 3 dX6_many_98 rfl rfl ?_
      refine r_aload_n (pc := 99) C 0 dX6_many_99 rfl rfl ?_
      refine mg_s (pc := 100) C fl_RX6_7 dX6_many_100 ?_
      refine r_iconst (pc := 103) C 0 dX6_many_103 (by decide) ?_
      refine al_s (pc := 104) C 0 (rfl) (by omega) dX6_many_104 (σ 0 0) rfl ?_
      refine r_eqi (y := nI n) (hN) ?_
      refine r_icmp_ge (pc := 105) C 130 dX6_many_105 (by decide) (fun c_4 => ?_) (fun c_4 => ?_)
      · skip
        have c_4 := nIc_ge_t (a := i) (b := n) (by omega) (by omega) c_4
        obtain rfl : n = i := by omega
        refine r_iload_n (pc := 130) C 2 dX6_many_130 rfl rfl ?_
        exact r_iret (pc := 131) C hr hlk dX6_many_131 rfl (by simp [maA, *]) rfl
      · skip
        have c_4 := nIc_ge_f (a := i) (b := n) (by omega) (by omega) c_4
        refine r_iload_n (pc := 108) C 2 dX6_many_108 rfl rfl ?_
        refine r_aload_n (pc := 109) C 0 dX6_many_109 rfl rfl ?_
        refine r_iload_n (pc := 110) C 3 dX6_many_110 rfl rfl ?_
        refine rc_Vi (pc := 111) C (t_X6_wears' l ad D cs h σ pre post (σ 0) (rfl) n i hn (by omega)) mv_X6_wears ml_RX6_162 rfl ⟨Nat.le_of_ble_eq_true rfl, Nat.le_of_ble_eq_true rfl⟩ ⟨rfl, rfl⟩ (q0 := 0) rfl rfl rfl rfl rfl rfl (Nat.le_of_ble_eq_true rfl) dX6_many_111 ?_
        refine r_if_le (pc := 114) C 121 dX6_many_114 (by decide) (fun c_5 => ?_) (fun c_5 => ?_)
        · skip
          refine r_iconst (pc := 121) C 0 dX6_many_121 (by decide) ?_
          refine r_iadd (pc := 122) C dX6_many_122 ?_
          refine r_istore_n (pc := 123) C [(2, .int ((weN (σ 0) i) + 0)), (0, .ref (h 0)), (1, .int w), (3, .int (nI i))] dX6_many_123 rfl (by decide) rfl ?_
          refine r_iinc (pc := 124) C (nI (i + 1)) 3 [(3, .int (nI (i + 1))), (2, .int ((weN (σ 0) i) + 0)), (0, .ref (h 0)), (1, .int w)] dX6_many_124 rfl (nI_1 _) (by decide) rfl ?_
          refine r_goto (pc := 127) C 98 dX6_many_127 (by decide) ?_
          refine r_pick (lv' := [(0, .ref (h 0)), (1, .int w), (2, .int ((weN (σ 0) i) + 0)), (3, .int (nI (i + 1)))]) [2, 3, 1, 0] rfl ?_
          refine r_lv (lv' := [(0, .ref (h 0)), (1, .int w), (2, .int (weN (σ 0) (i + 1))), (3, .int (nI (i + 1)))]) (lvc rfl (lvc rfl (lvc (congrArg Value.int (show ((weN (σ 0) i) + 0 : Int32) = weN (σ 0) (i + 1) from (by simp [weN, *]))) (lvc rfl rfl)))) ?_
          exact ih (by omega) (trivial)
        · skip
          refine r_iconst (pc := 117) C 1 dX6_many_117 (by decide) ?_
          refine r_goto (pc := 118) C 122 dX6_many_118 (by decide) ?_
          refine r_iadd (pc := 122) C dX6_many_122 ?_
          refine r_istore_n (pc := 123) C [(2, .int ((weN (σ 0) i) + 1)), (0, .ref (h 0)), (1, .int w), (3, .int (nI i))] dX6_many_123 rfl (by decide) rfl ?_
          refine r_iinc (pc := 124) C (nI (i + 1)) 3 [(3, .int (nI (i + 1))), (2, .int ((weN (σ 0) i) + 1)), (0, .ref (h 0)), (1, .int w)] dX6_many_124 rfl (nI_1 _) (by decide) rfl ?_
          refine r_goto (pc := 127) C 98 dX6_many_127 (by decide) ?_
          refine r_pick (lv' := [(0, .ref (h 0)), (1, .int w), (2, .int ((weN (σ 0) i) + 1)), (3, .int (nI (i + 1)))]) [2, 3, 1, 0] rfl ?_
          refine r_lv (lv' := [(0, .ref (h 0)), (1, .int w), (2, .int (weN (σ 0) (i + 1))), (3, .int (nI (i + 1)))]) (lvc rfl (lvc rfl (lvc (congrArg Value.int (show ((weN (σ 0) i) + 1 : Int32) = weN (σ 0) (i + 1) from (by simp [weN, *]))) (lvc rfl rfl)))) ?_
          exact ih (by omega) (trivial)
    · skip
      refine r_tableIn (pc := 3) C 41 132 dX6_many_3 (by rw [w_1]; decide) (by rw [w_1]; decide) (by rw [w_1]; rfl) (by decide) ?_
      have w_1 : w = 4 := Int32.toInt_inj.mp (by rw [w_1]; rfl)
      refine r_aload_n (pc := 132) C 1 dX6_many_132 rfl rfl ?_
      refine mg_rowN (pc := 133) C fl_RX6_141 dX6_many_133 (σ 14 0) rfl ?_
      refine r_eqi (y := nI y) (hY) ?_
      exact r_iret (pc := 136) C hr hlk dX6_many_136 rfl (by simp [maA, *]) rfl
    · skip
      refine r_tableIn (pc := 3) C 41 137 dX6_many_3 (by rw [w_1]; decide) (by rw [w_1]; decide) (by rw [w_1]; rfl) (by decide) ?_
      have w_1 : w = 5 := Int32.toInt_inj.mp (by rw [w_1]; rfl)
      refine r_aload_n (pc := 137) C 1 dX6_many_137 rfl rfl ?_
      refine mg_taped (pc := 138) C fl_RX6_61 dX6_many_138 (σ 6 0) rfl ?_
      refine r_eqi (y := nI t) (hT) ?_
      exact r_iret (pc := 141) C hr hlk dX6_many_141 rfl (by simp [maA, *]) rfl
    · skip
      refine r_tableIn (pc := 3) C 41 142 dX6_many_3 (by rw [w_1]; decide) (by rw [w_1]; decide) (by rw [w_1]; rfl) (by decide) ?_
      have w_1 : w = 6 := Int32.toInt_inj.mp (by rw [w_1]; rfl)
      refine r_aload_n (pc := 142) C 1 dX6_many_142 rfl rfl ?_
      refine mg_ran (pc := 143) C fl_RX6_287 dX6_many_143 (σ 22 0) rfl ?_
      refine r_eqi (y := nI r) (hR) ?_
      exact r_iret (pc := 146) C hr hlk dX6_many_146 rfl (by simp [maA, *]) rfl
theorem t_X6_many' (l : Launch) (ad : Nat → Nat) (D : va_G) (cs : Nat → ClassId) (h : Nat → Nat) (σ : Nat → Nat → Int32) (pre post : va_W) (f0_ : Nat → Int32) (e0_ : σ 0 = f0_) (f6_ : Nat → Int32) (e6_ : σ 6 = f6_) (f14_ : Nat → Int32) (e14_ : σ 14 = f14_) (f22_ : Nat → Int32) (e22_ : σ 22 = f22_) (n r y t : Nat) (w : Int32) (hN : f0_ 0 = nI n) (hn : n ≤ 8) (hR : f22_ 0 = nI r) (hr0 : r ≤ 30) (hY : f14_ 0 = nI y) (hy0 : y ≤ 10) (hT : f6_ 0 = nI t) (ht : t ≤ 200) : CTi l yX6_many cX6_many 4 .int ({ frames := 2, cells := 0, slots := 0, locals := 44 }) ad D (tysW cs) (pre ++ (wM cs h σ ++ post)) [.ref (h 0), .int w] (maA n y t r f0_ w) (pre ++ (wM cs h σ ++ post)) := by
  subst e0_; subst e6_; subst e14_; subst e22_
  exact t_X6_many l ad D cs h σ pre post n r y t w hN hn hR hr0 hY hy0 hT ht
theorem dX6_feed_0 : decode cX6_feed 0 = .ok (.iload_n 3, 1) := by decide +kernel
theorem dX6_feed_1 : decode cX6_feed 1 = .ok (.i2l, 1) := by decide +kernel
theorem dX6_feed_2 : decode cX6_feed 2 = .ok (.lconst 1, 1) := by decide +kernel
theorem dX6_feed_3 : decode cX6_feed 3 = .ok (.ldc2_w 55, 3) := by decide +kernel
theorem dX6_feed_6 : decode cX6_feed 6 = .ok (.invokestatic 57, 3) := by decide +kernel
theorem dX6_feed_9 : decode cX6_feed 9 = .ok (.ifCond .ne 5, 3) := by decide +kernel
theorem dX6_feed_12 : decode cX6_feed 12 = .ok (.iconst (-1), 1) := by decide +kernel
theorem dX6_feed_13 : decode cX6_feed 13 = .ok (.ireturn, 1) := by decide +kernel
theorem dX6_feed_14 : decode cX6_feed 14 = .ok (.aload_n 0, 1) := by decide +kernel
theorem dX6_feed_15 : decode cX6_feed 15 = .ok (.getfield 61, 3) := by decide +kernel
theorem dX6_feed_18 : decode cX6_feed 18 = .ok (.iload_n 3, 1) := by decide +kernel
theorem dX6_feed_19 : decode cX6_feed 19 = .ok (.iadd, 1) := by decide +kernel
theorem dX6_feed_20 : decode cX6_feed 20 = .ok (.sipush 200, 3) := by decide +kernel
theorem dX6_feed_23 : decode cX6_feed 23 = .ok (.if_icmp .le 6, 3) := by decide +kernel
theorem dX6_feed_26 : decode cX6_feed 26 = .ok (.bipush (-2), 2) := by decide +kernel
theorem dX6_feed_28 : decode cX6_feed 28 = .ok (.ireturn, 1) := by decide +kernel
theorem dX6_feed_29 : decode cX6_feed 29 = .ok (.iconst 0, 1) := by decide +kernel
theorem dX6_feed_30 : decode cX6_feed 30 = .ok (.istore 4, 2) := by decide +kernel
theorem dX6_feed_32 : decode cX6_feed 32 = .ok (.iload 4, 2) := by decide +kernel
theorem dX6_feed_34 : decode cX6_feed 34 = .ok (.iload_n 3, 1) := by decide +kernel
theorem dX6_feed_35 : decode cX6_feed 35 = .ok (.if_icmp .ge 40, 3) := by decide +kernel
theorem dX6_feed_38 : decode cX6_feed 38 = .ok (.aload_n 0, 1) := by decide +kernel
theorem dX6_feed_39 : decode cX6_feed 39 = .ok (.getfield 22, 3) := by decide +kernel
theorem dX6_feed_42 : decode cX6_feed 42 = .ok (.aload_n 0, 1) := by decide +kernel
theorem dX6_feed_43 : decode cX6_feed 43 = .ok (.getfield 61, 3) := by decide +kernel
theorem dX6_feed_46 : decode cX6_feed 46 = .ok (.lload_n 1, 1) := by decide +kernel
theorem dX6_feed_47 : decode cX6_feed 47 = .ok (.bipush 8, 2) := by decide +kernel
theorem dX6_feed_49 : decode cX6_feed 49 = .ok (.iload 4, 2) := by decide +kernel
theorem dX6_feed_51 : decode cX6_feed 51 = .ok (.imul, 1) := by decide +kernel
theorem dX6_feed_52 : decode cX6_feed 52 = .ok (.lshr, 1) := by decide +kernel
theorem dX6_feed_53 : decode cX6_feed 53 = .ok (.ldc2_w 65, 3) := by decide +kernel
theorem dX6_feed_56 : decode cX6_feed 56 = .ok (.land, 1) := by decide +kernel
theorem dX6_feed_57 : decode cX6_feed 57 = .ok (.l2i, 1) := by decide +kernel
theorem dX6_feed_58 : decode cX6_feed 58 = .ok (.iastore, 1) := by decide +kernel
theorem dX6_feed_59 : decode cX6_feed 59 = .ok (.aload_n 0, 1) := by decide +kernel
theorem dX6_feed_60 : decode cX6_feed 60 = .ok (.dup, 1) := by decide +kernel
theorem dX6_feed_61 : decode cX6_feed 61 = .ok (.getfield 61, 3) := by decide +kernel
theorem dX6_feed_64 : decode cX6_feed 64 = .ok (.iconst 1, 1) := by decide +kernel
theorem dX6_feed_65 : decode cX6_feed 65 = .ok (.iadd, 1) := by decide +kernel
theorem dX6_feed_66 : decode cX6_feed 66 = .ok (.putfield 61, 3) := by decide +kernel
theorem dX6_feed_69 : decode cX6_feed 69 = .ok (.iinc 4 1, 3) := by decide +kernel
theorem dX6_feed_72 : decode cX6_feed 72 = .ok (.goto (-40), 3) := by decide +kernel
theorem dX6_feed_75 : decode cX6_feed 75 = .ok (.aload_n 0, 1) := by decide +kernel
theorem dX6_feed_76 : decode cX6_feed 76 = .ok (.getfield 61, 3) := by decide +kernel
theorem dX6_feed_79 : decode cX6_feed 79 = .ok (.ireturn, 1) := by decide +kernel
set_option maxHeartbeats 400000 in
set_option maxRecDepth 20000 in
theorem t_X6_feed (l : Launch) (ad : Nat → Nat) (D : va_G) (cs : Nat → ClassId) (h : Nat → Nat) (σ : Nat → Nat → Int32) (pre post : va_W) (t : Nat) (ev : Int64) (k : Int32) (hT : σ 6 0 = nI t) (ht : t ≤ 200) : CTi l yX6_feed cX6_feed 5 .int ({ frames := 1, cells := 0, slots := 0, locals := 25 }) ad D (tysW cs) (pre ++ (wM cs h σ ++ post)) [.ref (h 0), .long ev, .int k] (gateI (inB k 1 8) (if t + k.toNatClampNeg ≤ 200 then nI (t + k.toNatClampNeg) else -2) (-1)) (pre ++ (wM cs h (su (su σ 5 (gateF (inB k 1 8 && decide (t + k.toNatClampNeg ≤ 200)) (fdN (σ 5) ev t k.toNatClampNeg) (σ 5))) 6 (gateF (inB k 1 8 && decide (t + k.toNatClampNeg ≤ 200)) (fun _ => nI (t + k.toNatClampNeg)) (σ 6))) ++ post)) := by
  refine CTi.of (lv0 := [(0, .ref (h 0)), (1, .long ev), (3, .int k)]) (by decide) rfl (Nat.le_of_ble_eq_true rfl) (fun p e s m args below meth c A C hr hlk => ?_)
  have C : Cx p s m args c cX6_feed 5 RX6 ad D (tysW cs) A := C
  refine r_iload_n (pc := 0) C 2 dX6_feed_0 rfl rfl ?_
  refine r_i2l (pc := 1) C dX6_feed_1 ?_
  refine r_lconst (pc := 2) C 1 dX6_feed_2 (by decide) ?_
  refine r_ldc2 (pc := 3) C dX6_feed_3 cn_RX6_55 ?_
  refine rc_Si (pc := 6) C (t_X6_isIn l ad D (tysW cs) (wM cs h σ) pre post  k (1 : Int32) (8 : Int32) ) ms_X6_isIn ml_RX6_57 rfl ⟨Nat.le_of_ble_eq_true rfl, Nat.le_of_ble_eq_true rfl⟩ ⟨rfl, rfl⟩ rfl rfl rfl (Nat.le_of_ble_eq_true rfl) dX6_feed_6 ?_
  refine r_if_ne (pc := 9) C 14 dX6_feed_9 (by decide) (fun c_1 => ?_) (fun c_1 => ?_)
  · skip
    have c_1 := bI_n.mp c_1
    obtain ⟨u, l_u, h_u, rfl⟩ := rng_nat 1 8 (by decide) (by decide) c_1
    have e_u : (nI u).toNatClampNeg = u := nI_clamp (by omega)
    refine r_aload_n (pc := 14) C 0 dX6_feed_14 rfl rfl ?_
    refine mg_taped (pc := 15) C fl_RX6_61 dX6_feed_15 (σ 6 0) rfl ?_
    refine r_eqi (y := nI t) (hT) ?_
    refine r_iload_n (pc := 18) C 2 dX6_feed_18 rfl rfl ?_
    refine r_iadd (pc := 19) C dX6_feed_19 ?_
    refine r_eqi (y := nI (t + u)) (nI_add t u) ?_
    refine r_sipush (pc := 20) C 200 dX6_feed_20 (by decide) ?_
    refine r_icmp_le (pc := 23) C 29 dX6_feed_23 (by decide) (fun c_2 => ?_) (fun c_2 => ?_)
    · skip
      have c_2 := nIc_le_t (a := (t + u)) (b := 200) (by omega) (by omega) c_2
      refine r_iconst (pc := 29) C 0 dX6_feed_29 (by decide) ?_
      refine r_istore (pc := 30) C [(4, .int 0), (0, .ref (h 0)), (1, .long ev), (3, .int (nI u))] dX6_feed_30 (by decide) rfl ?_
      refine r_pick (lv' := [(0, .ref (h 0)), (1, .long ev), (3, .int (nI u)), (4, .int 0)]) [1, 2, 3, 0] rfl ?_
      refine r_blk (blk' := wM cs h (su (su σ 5 (fdN (σ 5) ev t 0)) 6 (fun _ => nI (t + 0)))) (by rw [show (fun _ => nI (t + 0) : Nat → Int32) = (fun _ => σ 6 0) from funext (fun _ => hT.symm)] <;> rfl) ?_
      refine r_loop (blkf := fun i => wM cs h (su (su σ 5 (fdN (σ 5) ev t i)) 6 (fun _ => nI (t + i)))) (lvf := fun i => [(0, .ref (h 0)), (1, .long ev), (3, .int (nI u)), (4, .int (nI i))]) (fun i => True) u 0 (by omega) (trivial) (fun i h_i _ ih => ?_)
      show VX p l e _ s m args below meth c _ D A 5 pre (wM cs h (su (su σ 5 (fdN (σ 5) ev t i)) 6 (fun _ => nI (t + i)))) post 32 [(0, .ref (h 0)), (1, .long ev), (3, .int (nI u)), (4, .int (nI i))] []
      refine r_iload (pc := 32) C 3 dX6_feed_32 rfl ?_
      refine r_iload_n (pc := 34) C 2 dX6_feed_34 rfl rfl ?_
      refine r_icmp_ge (pc := 35) C 75 dX6_feed_35 (by decide) (fun c_3 => ?_) (fun c_3 => ?_)
      · skip
        have c_3 := nIc_ge_t (a := i) (b := u) (by omega) (by omega) c_3
        obtain rfl : u = i := by omega
        refine r_aload_n (pc := 75) C 0 dX6_feed_75 rfl rfl ?_
        refine mg_taped (pc := 76) C fl_RX6_61 dX6_feed_76 (nI (t + u)) (congrFun (su_at) 0) ?_
        exact r_iret (pc := 79) C hr hlk dX6_feed_79 rfl (by first | rfl | (simp [gateI, gateF, *]; done) | simp_all [gateI, gateF]) (by rw [show (gateF (inB (nI u) 1 8 && decide (t + (nI u).toNatClampNeg ≤ 200)) (fdN (σ 5) ev t (nI u).toNatClampNeg) (σ 5) : Nat → Int32) = fdN (σ 5) ev t u from (by first | rfl | (simp [gateI, gateF, *]; done) | simp_all [gateI, gateF]), show (gateF (inB (nI u) 1 8 && decide (t + (nI u).toNatClampNeg ≤ 200)) (fun _ => nI (t + (nI u).toNatClampNeg)) (σ 6) : Nat → Int32) = fun _ => nI (t + u) from (by first | rfl | (simp [gateI, gateF, *]; done) | simp_all [gateI, gateF])] <;> rfl)
      · skip
        have c_3 := nIc_ge_f (a := i) (b := u) (by omega) (by omega) c_3
        refine r_aload_n (pc := 38) C 0 dX6_feed_38 rfl rfl ?_
        refine mg_tape (pc := 39) C fl_RX6_22 dX6_feed_39 ?_
        refine r_aload_n (pc := 42) C 0 dX6_feed_42 rfl rfl ?_
        refine mg_taped (pc := 43) C fl_RX6_61 dX6_feed_43 (nI (t + i)) (congrFun (su_at) 0) ?_
        refine r_lload_n (pc := 46) C 1 dX6_feed_46 rfl rfl ?_
        refine r_bipush (pc := 47) C 8 dX6_feed_47 (by decide) ?_
        refine r_iload (pc := 49) C 3 dX6_feed_49 rfl ?_
        refine r_imul (pc := 51) C dX6_feed_51 ?_
        refine r_eqi (y := nI (8 * i)) (pk_mul 8 i) ?_
        refine r_lshr (pc := 52) C dX6_feed_52 ?_
        refine r_ldc2 (pc := 53) C dX6_feed_53 cn_RX6_65 ?_
        refine r_land (pc := 56) C dX6_feed_56 ?_
        refine r_l2i (pc := 57) C dX6_feed_57 ?_
        refine as_tape (pc := 58) C (t + i) (rfl) (by omega) dX6_feed_58 (fdN (σ 5) ev t i) ((su_nn (by decide)).trans su_at) ?_
        refine r_blk (blk' := wM cs h (su (su σ 5 (upd (fdN (σ 5) ev t i) (t + i) (((ev >>> ((nI (8 * i)).toInt64 &&& 63)) &&& 255).toInt32))) 6 (fun _ => nI (t + i)))) (congrArg (wM cs h) (by rw [su_cm (k := 6) (j := 5) (by decide), su_su])) ?_
        refine r_aload_n (pc := 59) C 0 dX6_feed_59 rfl rfl ?_
        refine r_dup (pc := 60) C dX6_feed_60 rfl ?_
        refine mg_taped (pc := 61) C fl_RX6_61 dX6_feed_61 (nI (t + i)) (congrFun (su_at) 0) ?_
        refine r_iconst (pc := 64) C 1 dX6_feed_64 (by decide) ?_
        refine r_iadd (pc := 65) C dX6_feed_65 ?_
        refine r_eqi (y := nI (t + i + 1)) (nI_add (t + i) 1) ?_
        refine mp_taped (pc := 66) C fl_RX6_61 dX6_feed_66 ?_
        refine r_blk (blk' := wM cs h (su (su σ 5 (upd (fdN (σ 5) ev t i) (t + i) (((ev >>> ((nI (8 * i)).toInt64 &&& 63)) &&& 255).toInt32))) 6 (fun _ => nI (t + i + 1)))) (congrArg (wM cs h) (by rw [su_su])) ?_
        refine r_iinc (pc := 69) C (nI (i + 1)) 3 [(4, .int (nI (i + 1))), (0, .ref (h 0)), (1, .long ev), (3, .int (nI u))] dX6_feed_69 rfl (nI_1 _) (by decide) rfl ?_
        refine r_goto (pc := 72) C 32 dX6_feed_72 (by decide) ?_
        refine r_pick (lv' := [(0, .ref (h 0)), (1, .long ev), (3, .int (nI u)), (4, .int (nI (i + 1)))]) [1, 2, 3, 0] rfl ?_
        refine r_blk (blk' := wM cs h (su (su σ 5 (fdN (σ 5) ev t (i + 1))) 6 (fun _ => nI (t + (i + 1))))) (rfl) ?_
        exact ih (by omega) (trivial)
    · skip
      have c_2 := nIc_le_f (a := (t + u)) (b := 200) (by omega) (by omega) c_2
      have hx_ := Nat.not_le.mpr c_2
      refine r_bipush (pc := 26) C (-2) dX6_feed_26 (by decide) ?_
      exact r_iret (pc := 28) C hr hlk dX6_feed_28 rfl (by first | rfl | (simp [gateI, gateF, *]; done) | simp_all [gateI, gateF]) (by rw [show (gateF (inB (nI u) 1 8 && decide (t + (nI u).toNatClampNeg ≤ 200)) (fdN (σ 5) ev t (nI u).toNatClampNeg) (σ 5) : Nat → Int32) = σ 5 from (by first | rfl | (simp [gateI, gateF, *]; done) | simp_all [gateI, gateF]), show (gateF (inB (nI u) 1 8 && decide (t + (nI u).toNatClampNeg ≤ 200)) (fun _ => nI (t + (nI u).toNatClampNeg)) (σ 6) : Nat → Int32) = σ 6 from (by first | rfl | (simp [gateI, gateF, *]; done) | simp_all [gateI, gateF])] <;> rfl)
  · skip
    have c_1 := bI_0.mp c_1
    refine r_iconst (pc := 12) C (-1) dX6_feed_12 (by decide) ?_
    exact r_iret (pc := 13) C hr hlk dX6_feed_13 rfl (by first | rfl | (simp [gateI, gateF, *]; done) | simp_all [gateI, gateF]) (by rw [show (gateF (inB k 1 8 && decide (t + k.toNatClampNeg ≤ 200)) (fdN (σ 5) ev t k.toNatClampNeg) (σ 5) : Nat → Int32) = σ 5 from (by first | rfl | (simp [gateI, gateF, *]; done) | simp_all [gateI, gateF]), show (gateF (inB k 1 8 && decide (t + k.toNatClampNeg ≤ 200)) (fun _ => nI (t + k.toNatClampNeg)) (σ 6) : Nat → Int32) = σ 6 from (by first | rfl | (simp [gateI, gateF, *]; done) | simp_all [gateI, gateF])] <;> rfl)
theorem t_X6_feed' (l : Launch) (ad : Nat → Nat) (D : va_G) (cs : Nat → ClassId) (h : Nat → Nat) (σ : Nat → Nat → Int32) (pre post : va_W) (f5_ : Nat → Int32) (e5_ : σ 5 = f5_) (f6_ : Nat → Int32) (e6_ : σ 6 = f6_) (t : Nat) (ev : Int64) (k : Int32) (hT : f6_ 0 = nI t) (ht : t ≤ 200) : CTi l yX6_feed cX6_feed 5 .int ({ frames := 1, cells := 0, slots := 0, locals := 25 }) ad D (tysW cs) (pre ++ (wM cs h σ ++ post)) [.ref (h 0), .long ev, .int k] (gateI (inB k 1 8) (if t + k.toNatClampNeg ≤ 200 then nI (t + k.toNatClampNeg) else -2) (-1)) (pre ++ (wM cs h (su (su σ 5 (gateF (inB k 1 8 && decide (t + k.toNatClampNeg ≤ 200)) (fdN (f5_) ev t k.toNatClampNeg) (f5_))) 6 (gateF (inB k 1 8 && decide (t + k.toNatClampNeg ≤ 200)) (fun _ => nI (t + k.toNatClampNeg)) (f6_))) ++ post)) := by
  subst e5_; subst e6_
  exact t_X6_feed l ad D cs h σ pre post t ev k hT ht
theorem dX6_wishFor_0 : decode cX6_wishFor 0 = .ok (.aload_n 0, 1) := by decide +kernel
theorem dX6_wishFor_1 : decode cX6_wishFor 1 = .ok (.iload_n 1, 1) := by decide +kernel
theorem dX6_wishFor_2 : decode cX6_wishFor 2 = .ok (.invokevirtual 168, 3) := by decide +kernel
theorem dX6_wishFor_5 : decode cX6_wishFor 5 = .ok (.ifCond .eq 22, 3) := by decide +kernel
theorem dX6_wishFor_8 : decode cX6_wishFor 8 = .ok (.iload_n 2, 1) := by decide +kernel
theorem dX6_wishFor_9 : decode cX6_wishFor 9 = .ok (.invokestatic 236, 3) := by decide +kernel
theorem dX6_wishFor_12 : decode cX6_wishFor 12 = .ok (.ifCond .eq 15, 3) := by decide +kernel
theorem dX6_wishFor_15 : decode cX6_wishFor 15 = .ok (.iload_n 3, 1) := by decide +kernel
theorem dX6_wishFor_16 : decode cX6_wishFor 16 = .ok (.i2l, 1) := by decide +kernel
theorem dX6_wishFor_17 : decode cX6_wishFor 17 = .ok (.lconst 0, 1) := by decide +kernel
theorem dX6_wishFor_18 : decode cX6_wishFor 18 = .ok (.ldc2_w 181, 3) := by decide +kernel
theorem dX6_wishFor_21 : decode cX6_wishFor 21 = .ok (.invokestatic 57, 3) := by decide +kernel
theorem dX6_wishFor_24 : decode cX6_wishFor 24 = .ok (.ifCond .ne 5, 3) := by decide +kernel
theorem dX6_wishFor_27 : decode cX6_wishFor 27 = .ok (.iconst (-1), 1) := by decide +kernel
theorem dX6_wishFor_28 : decode cX6_wishFor 28 = .ok (.ireturn, 1) := by decide +kernel
theorem dX6_wishFor_29 : decode cX6_wishFor 29 = .ok (.bipush 8, 2) := by decide +kernel
theorem dX6_wishFor_31 : decode cX6_wishFor 31 = .ok (.iconst 5, 1) := by decide +kernel
theorem dX6_wishFor_32 : decode cX6_wishFor 32 = .ok (.iload_n 1, 1) := by decide +kernel
theorem dX6_wishFor_33 : decode cX6_wishFor 33 = .ok (.imul, 1) := by decide +kernel
theorem dX6_wishFor_34 : decode cX6_wishFor 34 = .ok (.iadd, 1) := by decide +kernel
theorem dX6_wishFor_35 : decode cX6_wishFor 35 = .ok (.iconst 2, 1) := by decide +kernel
theorem dX6_wishFor_36 : decode cX6_wishFor 36 = .ok (.iadd, 1) := by decide +kernel
theorem dX6_wishFor_37 : decode cX6_wishFor 37 = .ok (.istore 4, 2) := by decide +kernel
theorem dX6_wishFor_39 : decode cX6_wishFor 39 = .ok (.aload_n 0, 1) := by decide +kernel
theorem dX6_wishFor_40 : decode cX6_wishFor 40 = .ok (.getfield 7, 3) := by decide +kernel
theorem dX6_wishFor_43 : decode cX6_wishFor 43 = .ok (.iload 4, 2) := by decide +kernel
theorem dX6_wishFor_45 : decode cX6_wishFor 45 = .ok (.iaload, 1) := by decide +kernel
theorem dX6_wishFor_46 : decode cX6_wishFor 46 = .ok (.istore 5, 2) := by decide +kernel
theorem dX6_wishFor_48 : decode cX6_wishFor 48 = .ok (.bipush (-3), 2) := by decide +kernel
theorem dX6_wishFor_50 : decode cX6_wishFor 50 = .ok (.istore 6, 2) := by decide +kernel
theorem dX6_wishFor_52 : decode cX6_wishFor 52 = .ok (.iconst 0, 1) := by decide +kernel
theorem dX6_wishFor_53 : decode cX6_wishFor 53 = .ok (.istore 7, 2) := by decide +kernel
theorem dX6_wishFor_55 : decode cX6_wishFor 55 = .ok (.iload 7, 2) := by decide +kernel
theorem dX6_wishFor_57 : decode cX6_wishFor 57 = .ok (.bipush 99, 2) := by decide +kernel
theorem dX6_wishFor_59 : decode cX6_wishFor 59 = .ok (.if_icmp .gt 42, 3) := by decide +kernel
theorem dX6_wishFor_62 : decode cX6_wishFor 62 = .ok (.iload 6, 2) := by decide +kernel
theorem dX6_wishFor_64 : decode cX6_wishFor 64 = .ok (.ifCond .ge 37, 3) := by decide +kernel
theorem dX6_wishFor_67 : decode cX6_wishFor 67 = .ok (.aload_n 0, 1) := by decide +kernel
theorem dX6_wishFor_68 : decode cX6_wishFor 68 = .ok (.getfield 7, 3) := by decide +kernel
theorem dX6_wishFor_71 : decode cX6_wishFor 71 = .ok (.iload 4, 2) := by decide +kernel
theorem dX6_wishFor_73 : decode cX6_wishFor 73 = .ok (.iload 7, 2) := by decide +kernel
theorem dX6_wishFor_75 : decode cX6_wishFor 75 = .ok (.iastore, 1) := by decide +kernel
theorem dX6_wishFor_76 : decode cX6_wishFor 76 = .ok (.aload_n 0, 1) := by decide +kernel
theorem dX6_wishFor_77 : decode cX6_wishFor 77 = .ok (.iload_n 1, 1) := by decide +kernel
theorem dX6_wishFor_78 : decode cX6_wishFor 78 = .ok (.iload_n 2, 1) := by decide +kernel
theorem dX6_wishFor_79 : decode cX6_wishFor 79 = .ok (.invokevirtual 228, 3) := by decide +kernel
theorem dX6_wishFor_82 : decode cX6_wishFor 82 = .ok (.iload_n 3, 1) := by decide +kernel
theorem dX6_wishFor_83 : decode cX6_wishFor 83 = .ok (.if_icmp .lt 8, 3) := by decide +kernel
theorem dX6_wishFor_86 : decode cX6_wishFor 86 = .ok (.iload 7, 2) := by decide +kernel
theorem dX6_wishFor_88 : decode cX6_wishFor 88 = .ok (.goto 5, 3) := by decide +kernel
theorem dX6_wishFor_91 : decode cX6_wishFor 91 = .ok (.bipush (-3), 2) := by decide +kernel
theorem dX6_wishFor_93 : decode cX6_wishFor 93 = .ok (.istore 6, 2) := by decide +kernel
theorem dX6_wishFor_95 : decode cX6_wishFor 95 = .ok (.iinc 7 1, 3) := by decide +kernel
theorem dX6_wishFor_98 : decode cX6_wishFor 98 = .ok (.goto (-43), 3) := by decide +kernel
theorem dX6_wishFor_101 : decode cX6_wishFor 101 = .ok (.aload_n 0, 1) := by decide +kernel
theorem dX6_wishFor_102 : decode cX6_wishFor 102 = .ok (.getfield 7, 3) := by decide +kernel
theorem dX6_wishFor_105 : decode cX6_wishFor 105 = .ok (.iload 4, 2) := by decide +kernel
theorem dX6_wishFor_107 : decode cX6_wishFor 107 = .ok (.iload 5, 2) := by decide +kernel
theorem dX6_wishFor_109 : decode cX6_wishFor 109 = .ok (.iastore, 1) := by decide +kernel
theorem dX6_wishFor_110 : decode cX6_wishFor 110 = .ok (.iload 6, 2) := by decide +kernel
theorem dX6_wishFor_112 : decode cX6_wishFor 112 = .ok (.ireturn, 1) := by decide +kernel
set_option maxHeartbeats 400000 in
set_option maxRecDepth 20000 in
theorem t_X6_wishFor (l : Launch) (ad : Nat → Nat) (D : va_G) (cs : Nat → ClassId) (h : Nat → Nat) (σ : Nat → Nat → Int32) (pre post : va_W) (n : Nat) (o k v : Int32) (hN : σ 0 0 = nI n) (hn : n ≤ 8) : CTi l yX6_wishFor cX6_wishFor 8 .int ({ frames := 8, cells := 0, slots := 0, locals := 180 }) ad D (tysW cs) (pre ++ (wM cs h σ ++ post)) [.ref (h 0), .int o, .int k, .int v] (gateI (oneB n o && (inB k 1 20 && inB v 0 9999)) (fndP (fun t_ => decide (v ≤ purF n (upd (σ 0) (8 + 5 * o.toNatClampNeg + 2) (nI t_)) o.toNatClampNeg k.toNatClampNeg)) 0 100) (-1)) (pre ++ (wM cs h (su σ 2 (gateF (oneB n o && (inB k 1 20 && inB v 0 9999)) (upd (σ 0) (8 + 5 * o.toNatClampNeg + 2) (wshV (fndP (fun t_ => decide (v ≤ purF n (upd (σ 0) (8 + 5 * o.toNatClampNeg + 2) (nI t_)) o.toNatClampNeg k.toNatClampNeg)) 0 100))) (σ 2))) ++ post)) := by
  refine CTi.of (lv0 := [(0, .ref (h 0)), (1, .int o), (2, .int k), (3, .int v)]) (by decide) rfl (Nat.le_of_ble_eq_true rfl) (fun p e s m args below meth c A C hr hlk => ?_)
  have C : Cx p s m args c cX6_wishFor 8 RX6 ad D (tysW cs) A := C
  refine r_aload_n (pc := 0) C 0 dX6_wishFor_0 rfl rfl ?_
  refine r_iload_n (pc := 1) C 1 dX6_wishFor_1 rfl rfl ?_
  refine rc_Vi (pc := 2) C (t_X6_isOne' l ad D cs h σ pre post (σ 0) (rfl) n o hN hn) mv_X6_isOne ml_RX6_168 rfl ⟨Nat.le_of_ble_eq_true rfl, Nat.le_of_ble_eq_true rfl⟩ ⟨rfl, rfl⟩ (q0 := 0) rfl rfl rfl rfl rfl rfl (Nat.le_of_ble_eq_true rfl) dX6_wishFor_2 ?_
  refine r_if_eq (pc := 5) C 27 dX6_wishFor_5 (by decide) (fun c_1 => ?_) (fun c_1 => ?_)
  · skip
    have c_1 := bI_0.mp c_1
    refine r_iconst (pc := 27) C (-1) dX6_wishFor_27 (by decide) ?_
    exact r_iret (pc := 28) C hr hlk dX6_wishFor_28 rfl (by simp [gateI, *]) (by rw [show gateF (_) (_) (σ 2) = σ 2 from (by simp [gateF, *])] <;> rfl)
  · skip
    have c_1 := bI_n.mp c_1
    obtain ⟨j, h_j, rfl⟩ := one_nat (by omega) c_1
    have e_j : (nI j).toNatClampNeg = j := nI_clamp (by omega)
    refine r_iload_n (pc := 8) C 2 dX6_wishFor_8 rfl rfl ?_
    refine rc_Si (pc := 9) C (t_X6_isShort l ad D (tysW cs) (wM cs h σ) pre post  k ) ms_X6_isShort ml_RX6_236 rfl ⟨Nat.le_of_ble_eq_true rfl, Nat.le_of_ble_eq_true rfl⟩ ⟨rfl, rfl⟩ rfl rfl rfl (Nat.le_of_ble_eq_true rfl) dX6_wishFor_9 ?_
    refine r_if_eq (pc := 12) C 27 dX6_wishFor_12 (by decide) (fun c_2 => ?_) (fun c_2 => ?_)
    · skip
      have c_2 := bI_0.mp c_2
      refine r_iconst (pc := 27) C (-1) dX6_wishFor_27 (by decide) ?_
      exact r_iret (pc := 28) C hr hlk dX6_wishFor_28 rfl (by simp [gateI, *]) (by rw [show gateF (_) (_) (σ 2) = σ 2 from (by simp [gateF, *])] <;> rfl)
    · skip
      have c_2 := bI_n.mp c_2
      obtain ⟨t, l_t, h_t, rfl⟩ := rng_nat 1 20 (by decide) (by decide) c_2
      have e_t : (nI t).toNatClampNeg = t := nI_clamp (by omega)
      refine r_iload_n (pc := 15) C 3 dX6_wishFor_15 rfl rfl ?_
      refine r_i2l (pc := 16) C dX6_wishFor_16 ?_
      refine r_lconst (pc := 17) C 0 dX6_wishFor_17 (by decide) ?_
      refine r_ldc2 (pc := 18) C dX6_wishFor_18 cn_RX6_181 ?_
      refine rc_Si (pc := 21) C (t_X6_isIn l ad D (tysW cs) (wM cs h σ) pre post  v (0 : Int32) (9999 : Int32) ) ms_X6_isIn ml_RX6_57 rfl ⟨Nat.le_of_ble_eq_true rfl, Nat.le_of_ble_eq_true rfl⟩ ⟨rfl, rfl⟩ rfl rfl rfl (Nat.le_of_ble_eq_true rfl) dX6_wishFor_21 ?_
      refine r_if_ne (pc := 24) C 29 dX6_wishFor_24 (by decide) (fun c_3 => ?_) (fun c_3 => ?_)
      · skip
        have c_3 := bI_n.mp c_3
        refine r_bipush (pc := 29) C 8 dX6_wishFor_29 (by decide) ?_
        refine r_iconst (pc := 31) C 5 dX6_wishFor_31 (by decide) ?_
        refine r_iload_n (pc := 32) C 1 dX6_wishFor_32 rfl rfl ?_
        refine r_imul (pc := 33) C dX6_wishFor_33 ?_
        refine r_eqi (y := nI (5 * j)) (pk_mul 5 j) ?_
        refine r_iadd (pc := 34) C dX6_wishFor_34 ?_
        refine r_eqi (y := nI (8 + 5 * j)) (nI_add 8 (5 * j)) ?_
        refine r_iconst (pc := 35) C 2 dX6_wishFor_35 (by decide) ?_
        refine r_iadd (pc := 36) C dX6_wishFor_36 ?_
        refine r_eqi (y := nI (8 + 5 * j + 2)) (nI_add (8 + 5 * j) 2) ?_
        refine r_istore (pc := 37) C [(4, .int (nI (8 + 5 * j + 2))), (0, .ref (h 0)), (1, .int (nI j)), (2, .int (nI t)), (3, .int v)] dX6_wishFor_37 (by decide) rfl ?_
        refine r_aload_n (pc := 39) C 1 dX6_wishFor_39 rfl rfl ?_
        refine mg_s (pc := 40) C fl_RX6_7 dX6_wishFor_40 ?_
        refine r_iload (pc := 43) C 0 dX6_wishFor_43 rfl ?_
        refine al_s (pc := 45) C (8 + 5 * j + 2) (rfl) (by omega) dX6_wishFor_45 (σ 0 (8 + 5 * j + 2)) rfl ?_
        refine r_istore (pc := 46) C [(5, .int (σ 0 (8 + 5 * j + 2))), (4, .int (nI (8 + 5 * j + 2))), (0, .ref (h 0)), (1, .int (nI j)), (2, .int (nI t)), (3, .int v)] dX6_wishFor_46 (by decide) rfl ?_
        refine r_bipush (pc := 48) C (-3) dX6_wishFor_48 (by decide) ?_
        refine r_istore (pc := 50) C [(6, .int (-3)), (5, .int (σ 0 (8 + 5 * j + 2))), (4, .int (nI (8 + 5 * j + 2))), (0, .ref (h 0)), (1, .int (nI j)), (2, .int (nI t)), (3, .int v)] dX6_wishFor_50 (by decide) rfl ?_
        refine r_iconst (pc := 52) C 0 dX6_wishFor_52 (by decide) ?_
        refine r_istore (pc := 53) C [(7, .int 0), (6, .int (-3)), (5, .int (σ 0 (8 + 5 * j + 2))), (4, .int (nI (8 + 5 * j + 2))), (0, .ref (h 0)), (1, .int (nI j)), (2, .int (nI t)), (3, .int v)] dX6_wishFor_53 (by decide) rfl ?_
        refine r_pick (lv' := [(0, .ref (h 0)), (1, .int (nI j)), (2, .int (nI t)), (3, .int v), (4, .int (nI (8 + 5 * j + 2))), (5, .int (σ 0 (8 + 5 * j + 2))), (6, .int (-3)), (7, .int 0)]) [4, 5, 6, 7, 3, 2, 1, 0] rfl ?_
        refine r_blk (blk' := wM cs h (su (su σ 0 (rbS (σ 0) (8 + 5 * j + 2) 0)) 2 (rbA (σ 0) (σ 2) (8 + 5 * j + 2) 0))) (rfl) ?_
        refine r_loop (blkf := fun i => wM cs h (su (su σ 0 (rbS (σ 0) (8 + 5 * j + 2) i)) 2 (rbA (σ 0) (σ 2) (8 + 5 * j + 2) i))) (lvf := fun i => [(0, .ref (h 0)), (1, .int (nI j)), (2, .int (nI t)), (3, .int v), (4, .int (nI (8 + 5 * j + 2))), (5, .int (σ 0 (8 + 5 * j + 2))), (6, .int (-3)), (7, .int (nI i))]) (fun i => fndP (fun t_ => decide (v ≤ purF n (upd (σ 0) (8 + 5 * j + 2) (nI t_)) j t)) 0 100 = fndP (fun t_ => decide (v ≤ purF n (upd (σ 0) (8 + 5 * j + 2) (nI t_)) j t)) i (100 - i)) 100 0 (by omega) (rfl) (fun i h_i hx ih => ?_)
        show VX p l e _ s m args below meth c _ D A 8 pre (wM cs h (su (su σ 0 (rbS (σ 0) (8 + 5 * j + 2) i)) 2 (rbA (σ 0) (σ 2) (8 + 5 * j + 2) i))) post 55 [(0, .ref (h 0)), (1, .int (nI j)), (2, .int (nI t)), (3, .int v), (4, .int (nI (8 + 5 * j + 2))), (5, .int (σ 0 (8 + 5 * j + 2))), (6, .int (-3)), (7, .int (nI i))] []
        refine r_iload (pc := 55) C 7 dX6_wishFor_55 rfl ?_
        refine r_bipush (pc := 57) C 99 dX6_wishFor_57 (by decide) ?_
        refine r_icmp_gt (pc := 59) C 101 dX6_wishFor_59 (by decide) (fun c_4 => ?_) (fun c_4 => ?_)
        · skip
          have c_4 := nIc_gt_t (a := i) (b := 99) (by omega) (by omega) c_4
          obtain rfl : i = 100 := by omega
          refine r_aload_n (pc := 101) C 0 dX6_wishFor_101 rfl rfl ?_
          refine mg_s (pc := 102) C fl_RX6_7 dX6_wishFor_102 ?_
          refine r_iload (pc := 105) C 4 dX6_wishFor_105 rfl ?_
          refine r_iload (pc := 107) C 5 dX6_wishFor_107 rfl ?_
          refine as_s (pc := 109) C (8 + 5 * j + 2) (rfl) (by omega) dX6_wishFor_109 (rbS (σ 0) (8 + 5 * j + 2) 100) ((su_nn (by decide)).trans su_at) ?_
          refine r_blk (blk' := wM cs h (su (su σ 0 (upd (rbS (σ 0) (8 + 5 * j + 2) 100) (8 + 5 * j + 2) (σ 0 (8 + 5 * j + 2)))) 2 (rbA (σ 0) (σ 2) (8 + 5 * j + 2) 100))) (congrArg (wM cs h) (by rw [su_cm (k := 2) (j := 0) (by decide), su_su])) ?_
          refine r_blk (blk' := wM cs h (su (su σ 0 (σ 0)) 2 (rbA (σ 0) (σ 2) (8 + 5 * j + 2) 100))) (by rw [show (upd (rbS (σ 0) (8 + 5 * j + 2) 100) (8 + 5 * j + 2) (σ 0 (8 + 5 * j + 2)) : Nat → Int32) = σ 0 from (rbS_id 99)] <;> rfl) ?_
          refine r_blk (blk' := wM cs h (su σ 2 (rbA (σ 0) (σ 2) (8 + 5 * j + 2) 100))) (congrArg (wM cs h) (by rw [su_id (k := 0) (f := σ 0) (rfl)])) ?_
          refine r_iload (pc := 110) C 6 dX6_wishFor_110 rfl ?_
          exact r_iret (pc := 112) C hr hlk dX6_wishFor_112 rfl (by rw [gateI_t (by simp [*]), e_j, e_t, hx]; rfl) (by rw [show (gateF (oneB n (nI j) && (inB (nI t) 1 20 && inB v 0 9999)) (upd (σ 0) (8 + 5 * (nI j).toNatClampNeg + 2) (wshV (fndP (fun t_ => decide (v ≤ purF n (upd (σ 0) (8 + 5 * (nI j).toNatClampNeg + 2) (nI t_)) (nI j).toNatClampNeg (nI t).toNatClampNeg)) 0 100))) (σ 2) : Nat → Int32) = rbA (σ 0) (σ 2) (8 + 5 * j + 2) 100 from (by rw [gateF_t (by simp [*]), e_j, e_t, hx]; rfl)] <;> rfl)
        · skip
          have c_4 := nIc_gt_f (a := i) (b := 99) (by omega) (by omega) c_4
          refine r_iload (pc := 62) C 6 dX6_wishFor_62 rfl ?_
          refine r_if_ge (pc := 64) C 101 dX6_wishFor_64 (by decide) (fun c_5 => ?_) (fun c_5 => ?_)
          · skip
            exact absurd c_5 (by decide)
          · skip
            refine r_aload_n (pc := 67) C 0 dX6_wishFor_67 rfl rfl ?_
            refine mg_s (pc := 68) C fl_RX6_7 dX6_wishFor_68 ?_
            refine r_iload (pc := 71) C 4 dX6_wishFor_71 rfl ?_
            refine r_iload (pc := 73) C 7 dX6_wishFor_73 rfl ?_
            refine as_s (pc := 75) C (8 + 5 * j + 2) (rfl) (by omega) dX6_wishFor_75 (rbS (σ 0) (8 + 5 * j + 2) i) ((su_nn (by decide)).trans su_at) ?_
            refine r_blk (blk' := wM cs h (su (su σ 0 (upd (rbS (σ 0) (8 + 5 * j + 2) i) (8 + 5 * j + 2) (nI i))) 2 (rbA (σ 0) (σ 2) (8 + 5 * j + 2) i))) (congrArg (wM cs h) (by rw [su_cm (k := 2) (j := 0) (by decide), su_su])) ?_
            refine r_blk (blk' := wM cs h (su (su σ 0 (upd (σ 0) (8 + 5 * j + 2) (nI i))) 2 (rbA (σ 0) (σ 2) (8 + 5 * j + 2) i))) (by rw [show (upd (σ 0) (8 + 5 * j + 2) (nI i) : Nat → Int32) = upd (rbS (σ 0) (8 + 5 * j + 2) i) (8 + 5 * j + 2) (nI i) from Eq.symm (rbS_upd i)] <;> rfl) ?_
            refine r_aload_n (pc := 76) C 0 dX6_wishFor_76 rfl rfl ?_
            refine r_iload_n (pc := 77) C 1 dX6_wishFor_77 rfl rfl ?_
            refine r_iload_n (pc := 78) C 2 dX6_wishFor_78 rfl rfl ?_
            refine rc_Vi (pc := 79) C (t_X6_purseBehind' l ad D cs h (su (su σ 0 (upd (σ 0) (8 + 5 * j + 2) (nI i))) 2 (rbA (σ 0) (σ 2) (8 + 5 * j + 2) i)) pre post (upd (σ 0) (8 + 5 * j + 2) (nI i)) ((su_nn (by decide)).trans su_at) n j t (upd_0 (by omega) hN) hn h_j (by omega)) mv_X6_purseBehind ml_RX6_228 rfl ⟨Nat.le_of_ble_eq_true rfl, Nat.le_of_ble_eq_true rfl⟩ ⟨rfl, rfl⟩ (q0 := 0) rfl rfl rfl rfl rfl rfl (Nat.le_of_ble_eq_true rfl) dX6_wishFor_79 ?_
            refine r_blk (blk' := wM cs h (su (su σ 0 (upd (σ 0) (8 + 5 * j + 2) (nI i))) 2 (upd (σ 0) (8 + 5 * j + 2) (nI i)))) (congrArg (wM cs h) (by rw [su_su (k := 2)])) ?_
            refine r_iload_n (pc := 82) C 3 dX6_wishFor_82 rfl rfl ?_
            refine r_icmp_lt (pc := 83) C 91 dX6_wishFor_83 (by decide) (fun c_6 => ?_) (fun c_6 => ?_)
            · skip
              refine r_bipush (pc := 91) C (-3) dX6_wishFor_91 (by decide) ?_
              refine r_istore (pc := 93) C [(6, .int (-3)), (0, .ref (h 0)), (1, .int (nI j)), (2, .int (nI t)), (3, .int v), (4, .int (nI (8 + 5 * j + 2))), (5, .int (σ 0 (8 + 5 * j + 2))), (7, .int (nI i))] dX6_wishFor_93 (by decide) rfl ?_
              refine r_iinc (pc := 95) C (nI (i + 1)) 7 [(7, .int (nI (i + 1))), (6, .int (-3)), (0, .ref (h 0)), (1, .int (nI j)), (2, .int (nI t)), (3, .int v), (4, .int (nI (8 + 5 * j + 2))), (5, .int (σ 0 (8 + 5 * j + 2)))] dX6_wishFor_95 rfl (nI_1 _) (by decide) rfl ?_
              refine r_goto (pc := 98) C 55 dX6_wishFor_98 (by decide) ?_
              refine r_pick (lv' := [(0, .ref (h 0)), (1, .int (nI j)), (2, .int (nI t)), (3, .int v), (4, .int (nI (8 + 5 * j + 2))), (5, .int (σ 0 (8 + 5 * j + 2))), (6, .int (-3)), (7, .int (nI (i + 1)))]) [2, 3, 4, 5, 6, 7, 1, 0] rfl ?_
              refine r_blk (blk' := wM cs h (su (su σ 0 (rbS (σ 0) (8 + 5 * j + 2) (i + 1))) 2 (rbA (σ 0) (σ 2) (8 + 5 * j + 2) (i + 1)))) (rfl) ?_
              exact ih (by omega) (hx.trans (fnd_next (by omega) (decide_eq_false (Int32.not_le.mpr ‹_›))))
            · skip
              refine r_iload (pc := 86) C 7 dX6_wishFor_86 rfl ?_
              refine r_goto (pc := 88) C 93 dX6_wishFor_88 (by decide) ?_
              refine r_istore (pc := 93) C [(6, .int (nI i)), (0, .ref (h 0)), (1, .int (nI j)), (2, .int (nI t)), (3, .int v), (4, .int (nI (8 + 5 * j + 2))), (5, .int (σ 0 (8 + 5 * j + 2))), (7, .int (nI i))] dX6_wishFor_93 (by decide) rfl ?_
              refine r_iinc (pc := 95) C (nI (i + 1)) 7 [(7, .int (nI (i + 1))), (6, .int (nI i)), (0, .ref (h 0)), (1, .int (nI j)), (2, .int (nI t)), (3, .int v), (4, .int (nI (8 + 5 * j + 2))), (5, .int (σ 0 (8 + 5 * j + 2)))] dX6_wishFor_95 rfl (nI_1 _) (by decide) rfl ?_
              refine r_goto (pc := 98) C 55 dX6_wishFor_98 (by decide) ?_
              refine r_iload (pc := 55) C 0 dX6_wishFor_55 rfl ?_
              refine r_bipush (pc := 57) C 99 dX6_wishFor_57 (by decide) ?_
              refine r_icmp_gt (pc := 59) C 101 dX6_wishFor_59 (by decide) (fun c_7 => ?_) (fun c_7 => ?_)
              · skip
                have c_7 := nIc_gt_t (a := (i + 1)) (b := 99) (by omega) (by omega) c_7
                refine r_aload_n (pc := 101) C 2 dX6_wishFor_101 rfl rfl ?_
                refine mg_s (pc := 102) C fl_RX6_7 dX6_wishFor_102 ?_
                refine r_iload (pc := 105) C 6 dX6_wishFor_105 rfl ?_
                refine r_iload (pc := 107) C 7 dX6_wishFor_107 rfl ?_
                refine as_s (pc := 109) C (8 + 5 * j + 2) (rfl) (by omega) dX6_wishFor_109 (upd (σ 0) (8 + 5 * j + 2) (nI i)) ((su_nn (by decide)).trans su_at) ?_
                refine r_blk (blk' := wM cs h (su (su σ 0 (upd (upd (σ 0) (8 + 5 * j + 2) (nI i)) (8 + 5 * j + 2) (σ 0 (8 + 5 * j + 2)))) 2 (upd (σ 0) (8 + 5 * j + 2) (nI i)))) (congrArg (wM cs h) (by rw [su_cm (k := 2) (j := 0) (by decide), su_su])) ?_
                refine r_blk (blk' := wM cs h (su (su σ 0 (σ 0)) 2 (upd (σ 0) (8 + 5 * j + 2) (nI i)))) (by rw [show (upd (upd (σ 0) (8 + 5 * j + 2) (nI i)) (8 + 5 * j + 2) (σ 0 (8 + 5 * j + 2)) : Nat → Int32) = σ 0 from (upd_upd.trans upd_id)] <;> rfl) ?_
                refine r_blk (blk' := wM cs h (su σ 2 (upd (σ 0) (8 + 5 * j + 2) (nI i)))) (congrArg (wM cs h) (by rw [su_id (k := 0) (f := σ 0) (rfl)])) ?_
                refine r_iload (pc := 110) C 1 dX6_wishFor_110 rfl ?_
                exact r_iret (pc := 112) C hr hlk dX6_wishFor_112 rfl (by rw [gateI_t (by simp [*]), e_j, e_t, hx]; exact (fnd_hit (by omega) (decide_eq_true (Int32.not_lt.mp ‹_›))).symm) (by rw [show (gateF (oneB n (nI j) && (inB (nI t) 1 20 && inB v 0 9999)) (upd (σ 0) (8 + 5 * (nI j).toNatClampNeg + 2) (wshV (fndP (fun t_ => decide (v ≤ purF n (upd (σ 0) (8 + 5 * (nI j).toNatClampNeg + 2) (nI t_)) (nI j).toNatClampNeg (nI t).toNatClampNeg)) 0 100))) (σ 2) : Nat → Int32) = upd (σ 0) (8 + 5 * j + 2) (nI i) from (by rw [gateF_t (by simp [*]), e_j, e_t, hx, fnd_hit (by omega) (decide_eq_true (Int32.not_lt.mp ‹_›)), wshV_n (by omega)])] <;> rfl)
              · skip
                have c_7 := nIc_gt_f (a := (i + 1)) (b := 99) (by omega) (by omega) c_7
                refine r_iload (pc := 62) C 1 dX6_wishFor_62 rfl ?_
                refine r_if_ge (pc := 64) C 101 dX6_wishFor_64 (by decide) (fun c_8 => ?_) (fun c_8 => ?_)
                · skip
                  have c_8 := nIc_ge_t (a := i) (b := 0) (by omega) (by omega) c_8
                  refine r_aload_n (pc := 101) C 2 dX6_wishFor_101 rfl rfl ?_
                  refine mg_s (pc := 102) C fl_RX6_7 dX6_wishFor_102 ?_
                  refine r_iload (pc := 105) C 6 dX6_wishFor_105 rfl ?_
                  refine r_iload (pc := 107) C 7 dX6_wishFor_107 rfl ?_
                  refine as_s (pc := 109) C (8 + 5 * j + 2) (rfl) (by omega) dX6_wishFor_109 (upd (σ 0) (8 + 5 * j + 2) (nI i)) ((su_nn (by decide)).trans su_at) ?_
                  refine r_blk (blk' := wM cs h (su (su σ 0 (upd (upd (σ 0) (8 + 5 * j + 2) (nI i)) (8 + 5 * j + 2) (σ 0 (8 + 5 * j + 2)))) 2 (upd (σ 0) (8 + 5 * j + 2) (nI i)))) (congrArg (wM cs h) (by rw [su_cm (k := 2) (j := 0) (by decide), su_su])) ?_
                  refine r_blk (blk' := wM cs h (su (su σ 0 (σ 0)) 2 (upd (σ 0) (8 + 5 * j + 2) (nI i)))) (by rw [show (upd (upd (σ 0) (8 + 5 * j + 2) (nI i)) (8 + 5 * j + 2) (σ 0 (8 + 5 * j + 2)) : Nat → Int32) = σ 0 from (upd_upd.trans upd_id)] <;> rfl) ?_
                  refine r_blk (blk' := wM cs h (su σ 2 (upd (σ 0) (8 + 5 * j + 2) (nI i)))) (congrArg (wM cs h) (by rw [su_id (k := 0) (f := σ 0) (rfl)])) ?_
                  refine r_iload (pc := 110) C 1 dX6_wishFor_110 rfl ?_
                  exact r_iret (pc := 112) C hr hlk dX6_wishFor_112 rfl (by rw [gateI_t (by simp [*]), e_j, e_t, hx]; exact (fnd_hit (by omega) (decide_eq_true (Int32.not_lt.mp ‹_›))).symm) (by rw [show (gateF (oneB n (nI j) && (inB (nI t) 1 20 && inB v 0 9999)) (upd (σ 0) (8 + 5 * (nI j).toNatClampNeg + 2) (wshV (fndP (fun t_ => decide (v ≤ purF n (upd (σ 0) (8 + 5 * (nI j).toNatClampNeg + 2) (nI t_)) (nI j).toNatClampNeg (nI t).toNatClampNeg)) 0 100))) (σ 2) : Nat → Int32) = upd (σ 0) (8 + 5 * j + 2) (nI i) from (by rw [gateF_t (by simp [*]), e_j, e_t, hx, fnd_hit (by omega) (decide_eq_true (Int32.not_lt.mp ‹_›)), wshV_n (by omega)])] <;> rfl)
                · skip
                  have c_8 := nIc_ge_f (a := i) (b := 0) (by omega) (by omega) c_8
                  exact absurd c_8 (by omega)
      · skip
        have c_3 := bI_0.mp c_3
        refine r_iconst (pc := 27) C (-1) dX6_wishFor_27 (by decide) ?_
        exact r_iret (pc := 28) C hr hlk dX6_wishFor_28 rfl (by simp [gateI, *]) (by rw [show gateF (_) (_) (σ 2) = σ 2 from (by simp [gateF, *])] <;> rfl)
theorem t_X6_wishFor' (l : Launch) (ad : Nat → Nat) (D : va_G) (cs : Nat → ClassId) (h : Nat → Nat) (σ : Nat → Nat → Int32) (pre post : va_W) (f0_ : Nat → Int32) (e0_ : σ 0 = f0_) (f2_ : Nat → Int32) (e2_ : σ 2 = f2_) (n : Nat) (o k v : Int32) (hN : f0_ 0 = nI n) (hn : n ≤ 8) : CTi l yX6_wishFor cX6_wishFor 8 .int ({ frames := 8, cells := 0, slots := 0, locals := 180 }) ad D (tysW cs) (pre ++ (wM cs h σ ++ post)) [.ref (h 0), .int o, .int k, .int v] (gateI (oneB n o && (inB k 1 20 && inB v 0 9999)) (fndP (fun t_ => decide (v ≤ purF n (upd f0_ (8 + 5 * o.toNatClampNeg + 2) (nI t_)) o.toNatClampNeg k.toNatClampNeg)) 0 100) (-1)) (pre ++ (wM cs h (su σ 2 (gateF (oneB n o && (inB k 1 20 && inB v 0 9999)) (upd f0_ (8 + 5 * o.toNatClampNeg + 2) (wshV (fndP (fun t_ => decide (v ≤ purF n (upd f0_ (8 + 5 * o.toNatClampNeg + 2) (nI t_)) o.toNatClampNeg k.toNatClampNeg)) 0 100))) (f2_))) ++ post)) := by
  subst e0_; subst e2_
  exact t_X6_wishFor l ad D cs h σ pre post n o k v hN hn
theorem dX6_changeFor_0 : decode cX6_changeFor 0 = .ok (.aload_n 0, 1) := by decide +kernel
theorem dX6_changeFor_1 : decode cX6_changeFor 1 = .ok (.iload_n 1, 1) := by decide +kernel
theorem dX6_changeFor_2 : decode cX6_changeFor 2 = .ok (.invokevirtual 168, 3) := by decide +kernel
theorem dX6_changeFor_5 : decode cX6_changeFor 5 = .ok (.ifCond .eq 10, 3) := by decide +kernel
theorem dX6_changeFor_8 : decode cX6_changeFor 8 = .ok (.iload_n 2, 1) := by decide +kernel
theorem dX6_changeFor_9 : decode cX6_changeFor 9 = .ok (.invokestatic 236, 3) := by decide +kernel
theorem dX6_changeFor_12 : decode cX6_changeFor 12 = .ok (.ifCond .ne 5, 3) := by decide +kernel
theorem dX6_changeFor_15 : decode cX6_changeFor 15 = .ok (.iconst (-1), 1) := by decide +kernel
theorem dX6_changeFor_16 : decode cX6_changeFor 16 = .ok (.ireturn, 1) := by decide +kernel
theorem dX6_changeFor_17 : decode cX6_changeFor 17 = .ok (.aload_n 0, 1) := by decide +kernel
theorem dX6_changeFor_18 : decode cX6_changeFor 18 = .ok (.iload_n 1, 1) := by decide +kernel
theorem dX6_changeFor_19 : decode cX6_changeFor 19 = .ok (.iload_n 2, 1) := by decide +kernel
theorem dX6_changeFor_20 : decode cX6_changeFor 20 = .ok (.invokevirtual 228, 3) := by decide +kernel
theorem dX6_changeFor_23 : decode cX6_changeFor 23 = .ok (.istore_n 3, 1) := by decide +kernel
theorem dX6_changeFor_24 : decode cX6_changeFor 24 = .ok (.bipush (-3), 2) := by decide +kernel
theorem dX6_changeFor_26 : decode cX6_changeFor 26 = .ok (.istore 4, 2) := by decide +kernel
theorem dX6_changeFor_28 : decode cX6_changeFor 28 = .ok (.iconst 0, 1) := by decide +kernel
theorem dX6_changeFor_29 : decode cX6_changeFor 29 = .ok (.istore 5, 2) := by decide +kernel
theorem dX6_changeFor_31 : decode cX6_changeFor 31 = .ok (.iload 5, 2) := by decide +kernel
theorem dX6_changeFor_33 : decode cX6_changeFor 33 = .ok (.aload_n 0, 1) := by decide +kernel
theorem dX6_changeFor_34 : decode cX6_changeFor 34 = .ok (.getfield 7, 3) := by decide +kernel
theorem dX6_changeFor_37 : decode cX6_changeFor 37 = .ok (.iconst 0, 1) := by decide +kernel
theorem dX6_changeFor_38 : decode cX6_changeFor 38 = .ok (.iaload, 1) := by decide +kernel
theorem dX6_changeFor_39 : decode cX6_changeFor 39 = .ok (.if_icmp .ge 60, 3) := by decide +kernel
theorem dX6_changeFor_42 : decode cX6_changeFor 42 = .ok (.iload 5, 2) := by decide +kernel
theorem dX6_changeFor_44 : decode cX6_changeFor 44 = .ok (.iload_n 1, 1) := by decide +kernel
theorem dX6_changeFor_45 : decode cX6_changeFor 45 = .ok (.if_icmp .eq 48, 3) := by decide +kernel
theorem dX6_changeFor_48 : decode cX6_changeFor 48 = .ok (.aload_n 0, 1) := by decide +kernel
theorem dX6_changeFor_49 : decode cX6_changeFor 49 = .ok (.iload_n 1, 1) := by decide +kernel
theorem dX6_changeFor_50 : decode cX6_changeFor 50 = .ok (.iload 5, 2) := by decide +kernel
theorem dX6_changeFor_52 : decode cX6_changeFor 52 = .ok (.invokevirtual 183, 3) := by decide +kernel
theorem dX6_changeFor_55 : decode cX6_changeFor 55 = .ok (.aload_n 0, 1) := by decide +kernel
theorem dX6_changeFor_56 : decode cX6_changeFor 56 = .ok (.iload 5, 2) := by decide +kernel
theorem dX6_changeFor_58 : decode cX6_changeFor 58 = .ok (.iload_n 2, 1) := by decide +kernel
theorem dX6_changeFor_59 : decode cX6_changeFor 59 = .ok (.invokevirtual 228, 3) := by decide +kernel
theorem dX6_changeFor_62 : decode cX6_changeFor 62 = .ok (.istore 6, 2) := by decide +kernel
theorem dX6_changeFor_64 : decode cX6_changeFor 64 = .ok (.aload_n 0, 1) := by decide +kernel
theorem dX6_changeFor_65 : decode cX6_changeFor 65 = .ok (.iload_n 1, 1) := by decide +kernel
theorem dX6_changeFor_66 : decode cX6_changeFor 66 = .ok (.iload 5, 2) := by decide +kernel
theorem dX6_changeFor_68 : decode cX6_changeFor 68 = .ok (.invokevirtual 183, 3) := by decide +kernel
theorem dX6_changeFor_71 : decode cX6_changeFor 71 = .ok (.iload 6, 2) := by decide +kernel
theorem dX6_changeFor_73 : decode cX6_changeFor 73 = .ok (.iload_n 3, 1) := by decide +kernel
theorem dX6_changeFor_74 : decode cX6_changeFor 74 = .ok (.if_icmp .le 8, 3) := by decide +kernel
theorem dX6_changeFor_77 : decode cX6_changeFor 77 = .ok (.iload 5, 2) := by decide +kernel
theorem dX6_changeFor_79 : decode cX6_changeFor 79 = .ok (.goto 5, 3) := by decide +kernel
theorem dX6_changeFor_82 : decode cX6_changeFor 82 = .ok (.iload 4, 2) := by decide +kernel
theorem dX6_changeFor_84 : decode cX6_changeFor 84 = .ok (.istore 4, 2) := by decide +kernel
theorem dX6_changeFor_86 : decode cX6_changeFor 86 = .ok (.iload_n 3, 1) := by decide +kernel
theorem dX6_changeFor_87 : decode cX6_changeFor 87 = .ok (.iload 6, 2) := by decide +kernel
theorem dX6_changeFor_89 : decode cX6_changeFor 89 = .ok (.invokestatic 186, 3) := by decide +kernel
theorem dX6_changeFor_92 : decode cX6_changeFor 92 = .ok (.istore_n 3, 1) := by decide +kernel
theorem dX6_changeFor_93 : decode cX6_changeFor 93 = .ok (.iinc 5 1, 3) := by decide +kernel
theorem dX6_changeFor_96 : decode cX6_changeFor 96 = .ok (.goto (-65), 3) := by decide +kernel
theorem dX6_changeFor_99 : decode cX6_changeFor 99 = .ok (.iload 4, 2) := by decide +kernel
theorem dX6_changeFor_101 : decode cX6_changeFor 101 = .ok (.ireturn, 1) := by decide +kernel
set_option maxHeartbeats 400000 in
set_option maxRecDepth 20000 in
theorem t_X6_changeFor (l : Launch) (ad : Nat → Nat) (D : va_G) (cs : Nat → ClassId) (h : Nat → Nat) (σ : Nat → Nat → Int32) (pre post : va_W) (n : Nat) (o k : Int32) (hN : σ 0 0 = nI n) (hn : n ≤ 8) : CTi l yX6_changeFor cX6_changeFor 7 .int ({ frames := 8, cells := 0, slots := 0, locals := 180 }) ad D (tysW cs) (pre ++ (wM cs h σ ++ post)) [.ref (h 0), .int o, .int k] (gateI (oneB n o && inB k 1 20) (cfB n (σ 0) o.toNatClampNeg k.toNatClampNeg n) (-1)) (pre ++ (wM cs h (su σ 2 (gateF (oneB n o && inB k 1 20) (cfA (σ 0) o.toNatClampNeg n) (σ 2))) ++ post)) := by
  refine CTi.of (lv0 := [(0, .ref (h 0)), (1, .int o), (2, .int k)]) (by decide) rfl (Nat.le_of_ble_eq_true rfl) (fun p e s m args below meth c A C hr hlk => ?_)
  have C : Cx p s m args c cX6_changeFor 7 RX6 ad D (tysW cs) A := C
  refine r_aload_n (pc := 0) C 0 dX6_changeFor_0 rfl rfl ?_
  refine r_iload_n (pc := 1) C 1 dX6_changeFor_1 rfl rfl ?_
  refine rc_Vi (pc := 2) C (t_X6_isOne' l ad D cs h σ pre post (σ 0) (rfl) n o hN hn) mv_X6_isOne ml_RX6_168 rfl ⟨Nat.le_of_ble_eq_true rfl, Nat.le_of_ble_eq_true rfl⟩ ⟨rfl, rfl⟩ (q0 := 0) rfl rfl rfl rfl rfl rfl (Nat.le_of_ble_eq_true rfl) dX6_changeFor_2 ?_
  refine r_if_eq (pc := 5) C 15 dX6_changeFor_5 (by decide) (fun c_1 => ?_) (fun c_1 => ?_)
  · skip
    have c_1 := bI_0.mp c_1
    refine r_iconst (pc := 15) C (-1) dX6_changeFor_15 (by decide) ?_
    exact r_iret (pc := 16) C hr hlk dX6_changeFor_16 rfl (by first | rfl | (simp [gateI, gateF, *]; done) | simp_all [gateI, gateF]) (by rw [show (gateF (oneB n o && inB k 1 20) (cfA (σ 0) o.toNatClampNeg n) (σ 2) : Nat → Int32) = σ 2 from (by first | rfl | (simp [gateI, gateF, *]; done) | simp_all [gateI, gateF])] <;> rfl)
  · skip
    have c_1 := bI_n.mp c_1
    obtain ⟨j, h_j, rfl⟩ := one_nat (by omega) c_1
    have e_j : (nI j).toNatClampNeg = j := nI_clamp (by omega)
    refine r_iload_n (pc := 8) C 2 dX6_changeFor_8 rfl rfl ?_
    refine rc_Si (pc := 9) C (t_X6_isShort l ad D (tysW cs) (wM cs h σ) pre post  k ) ms_X6_isShort ml_RX6_236 rfl ⟨Nat.le_of_ble_eq_true rfl, Nat.le_of_ble_eq_true rfl⟩ ⟨rfl, rfl⟩ rfl rfl rfl (Nat.le_of_ble_eq_true rfl) dX6_changeFor_9 ?_
    refine r_if_ne (pc := 12) C 17 dX6_changeFor_12 (by decide) (fun c_2 => ?_) (fun c_2 => ?_)
    · skip
      have c_2 := bI_n.mp c_2
      obtain ⟨t, l_t, h_t, rfl⟩ := rng_nat 1 20 (by decide) (by decide) c_2
      have e_t : (nI t).toNatClampNeg = t := nI_clamp (by omega)
      refine r_aload_n (pc := 17) C 0 dX6_changeFor_17 rfl rfl ?_
      refine r_iload_n (pc := 18) C 1 dX6_changeFor_18 rfl rfl ?_
      refine r_iload_n (pc := 19) C 2 dX6_changeFor_19 rfl rfl ?_
      refine rc_Vi (pc := 20) C (t_X6_purseBehind' l ad D cs h σ pre post (σ 0) (rfl) n j t hN hn h_j (by omega)) mv_X6_purseBehind ml_RX6_228 rfl ⟨Nat.le_of_ble_eq_true rfl, Nat.le_of_ble_eq_true rfl⟩ ⟨rfl, rfl⟩ (q0 := 0) rfl rfl rfl rfl rfl rfl (Nat.le_of_ble_eq_true rfl) dX6_changeFor_20 ?_
      refine r_istore_n (pc := 23) C [(3, .int (purF n (σ 0) j t)), (0, .ref (h 0)), (1, .int (nI j)), (2, .int (nI t))] dX6_changeFor_23 rfl (by decide) rfl ?_
      refine r_bipush (pc := 24) C (-3) dX6_changeFor_24 (by decide) ?_
      refine r_istore (pc := 26) C [(4, .int (-3)), (3, .int (purF n (σ 0) j t)), (0, .ref (h 0)), (1, .int (nI j)), (2, .int (nI t))] dX6_changeFor_26 (by decide) rfl ?_
      refine r_iconst (pc := 28) C 0 dX6_changeFor_28 (by decide) ?_
      refine r_istore (pc := 29) C [(5, .int 0), (4, .int (-3)), (3, .int (purF n (σ 0) j t)), (0, .ref (h 0)), (1, .int (nI j)), (2, .int (nI t))] dX6_changeFor_29 (by decide) rfl ?_
      refine r_pick (lv' := [(0, .ref (h 0)), (1, .int (nI j)), (2, .int (nI t)), (3, .int (purF n (σ 0) j t)), (4, .int (-3)), (5, .int 0)]) [3, 4, 5, 2, 1, 0] rfl ?_
      refine r_lv (lv' := [(0, .ref (h 0)), (1, .int (nI j)), (2, .int (nI t)), (3, .int (cfM n (σ 0) j t 0)), (4, .int (cfB n (σ 0) j t 0)), (5, .int 0)]) (rfl) ?_
      refine r_blk (blk' := wM cs h (su σ 2 (cfA (σ 0) j 0))) (rfl) ?_
      refine r_loop (blkf := fun i => wM cs h (su σ 2 (cfA (σ 0) j i))) (lvf := fun i => [(0, .ref (h 0)), (1, .int (nI j)), (2, .int (nI t)), (3, .int (cfM n (σ 0) j t i)), (4, .int (cfB n (σ 0) j t i)), (5, .int (nI i))]) (fun i => True) n 0 (by omega) (trivial) (fun i h_i _ ih => ?_)
      show VX p l e _ s m args below meth c _ D A 7 pre (wM cs h (su σ 2 (cfA (σ 0) j i))) post 31 [(0, .ref (h 0)), (1, .int (nI j)), (2, .int (nI t)), (3, .int (cfM n (σ 0) j t i)), (4, .int (cfB n (σ 0) j t i)), (5, .int (nI i))] []
      refine r_iload (pc := 31) C 5 dX6_changeFor_31 rfl ?_
      refine r_aload_n (pc := 33) C 0 dX6_changeFor_33 rfl rfl ?_
      refine mg_s (pc := 34) C fl_RX6_7 dX6_changeFor_34 ?_
      refine r_iconst (pc := 37) C 0 dX6_changeFor_37 (by decide) ?_
      refine al_s (pc := 38) C 0 (rfl) (by omega) dX6_changeFor_38 (σ 0 0) (congrFun ((su_nn (by decide))) _) ?_
      refine r_eqi (y := nI n) (hN) ?_
      refine r_icmp_ge (pc := 39) C 99 dX6_changeFor_39 (by decide) (fun c_3 => ?_) (fun c_3 => ?_)
      · skip
        have c_3 := nIc_ge_t (a := i) (b := n) (by omega) (by omega) c_3
        obtain rfl : n = i := by omega
        refine r_iload (pc := 99) C 4 dX6_changeFor_99 rfl ?_
        exact r_iret (pc := 101) C hr hlk dX6_changeFor_101 rfl (by first | rfl | (simp [gateI, gateF, *]; done) | simp_all [gateI, gateF]) (by rw [show (gateF (oneB n (nI j) && inB (nI t) 1 20) (cfA (σ 0) (nI j).toNatClampNeg n) (σ 2) : Nat → Int32) = cfA (σ 0) j n from (by first | rfl | (simp [gateI, gateF, *]; done) | simp_all [gateI, gateF])] <;> rfl)
      · skip
        have c_3 := nIc_ge_f (a := i) (b := n) (by omega) (by omega) c_3
        refine r_iload (pc := 42) C 5 dX6_changeFor_42 rfl ?_
        refine r_iload_n (pc := 44) C 1 dX6_changeFor_44 rfl rfl ?_
        refine r_icmp_eq (pc := 45) C 93 dX6_changeFor_45 (by decide) (fun c_4 => ?_) (fun c_4 => ?_)
        · skip
          have c_4 := nIc_eq_t (a := i) (b := j) (by omega) (by omega) c_4
          refine r_iinc (pc := 93) C (nI (i + 1)) 5 [(5, .int (nI (i + 1))), (0, .ref (h 0)), (1, .int (nI j)), (2, .int (nI t)), (3, .int (cfM n (σ 0) j t i)), (4, .int (cfB n (σ 0) j t i))] dX6_changeFor_93 rfl (nI_1 _) (by decide) rfl ?_
          refine r_goto (pc := 96) C 31 dX6_changeFor_96 (by decide) ?_
          refine r_pick (lv' := [(0, .ref (h 0)), (1, .int (nI j)), (2, .int (nI t)), (3, .int (cfM n (σ 0) j t i)), (4, .int (cfB n (σ 0) j t i)), (5, .int (nI (i + 1)))]) [1, 2, 3, 4, 5, 0] rfl ?_
          refine r_lv (lv' := [(0, .ref (h 0)), (1, .int (nI j)), (2, .int (nI t)), (3, .int (cfM n (σ 0) j t (i + 1))), (4, .int (cfB n (σ 0) j t (i + 1))), (5, .int (nI (i + 1)))]) (lvc rfl (lvc rfl (lvc rfl (lvc (congrArg Value.int (show (cfM n (σ 0) j t i : Int32) = cfM n (σ 0) j t (i + 1) from (if_pos ‹i = j›).symm)) (lvc (congrArg Value.int (show (cfB n (σ 0) j t i : Int32) = cfB n (σ 0) j t (i + 1) from (if_pos ‹i = j›).symm)) (lvc rfl rfl)))))) ?_
          refine r_blk (blk' := wM cs h (su σ 2 (cfA (σ 0) j (i + 1)))) (by rw [show (cfA (σ 0) j (i + 1) : Nat → Int32) = cfA (σ 0) j i from ((if_pos ‹i = j›).symm).symm] <;> rfl) ?_
          exact ih (by omega) (trivial)
        · skip
          have c_4 := nIc_eq_f (a := i) (b := j) (by omega) (by omega) c_4
          have hcf : ¬ i = j := c_4
          refine r_aload_n (pc := 48) C 0 dX6_changeFor_48 rfl rfl ?_
          refine r_iload_n (pc := 49) C 1 dX6_changeFor_49 rfl rfl ?_
          refine r_iload (pc := 50) C 5 dX6_changeFor_50 rfl ?_
          refine rc_Vv (pc := 52) C (t_X6_changes' l ad D cs h (su σ 2 (cfA (σ 0) j i)) pre post (σ 0) ((su_nn (by decide))) n j i hN hn h_j (by omega)) mv_X6_changes ml_RX6_183 rfl ⟨Nat.le_of_ble_eq_true rfl, Nat.le_of_ble_eq_true rfl⟩ ⟨rfl, rfl⟩ (q0 := 0) rfl rfl rfl rfl rfl rfl (Nat.le_of_ble_eq_true rfl) dX6_changeFor_52 ?_
          refine r_blk (blk' := wM cs h (su (su σ 0 (chgF (σ 0) j i 5)) 2 (cfA (σ 0) j i))) (congrArg (wM cs h) (by rw [su_cm (k := 2) (j := 0) (by decide)])) ?_
          have f_5 : chgF (σ 0) j i 5 0 = nI n := chgF_0 hN 5
          refine r_aload_n (pc := 55) C 0 dX6_changeFor_55 rfl rfl ?_
          refine r_iload (pc := 56) C 5 dX6_changeFor_56 rfl ?_
          refine r_iload_n (pc := 58) C 2 dX6_changeFor_58 rfl rfl ?_
          refine rc_Vi (pc := 59) C (t_X6_purseBehind' l ad D cs h (su (su σ 0 (chgF (σ 0) j i 5)) 2 (cfA (σ 0) j i)) pre post (chgF (σ 0) j i 5) ((su_nn (by decide)).trans su_at) n i t f_5 hn (by omega) (by omega)) mv_X6_purseBehind ml_RX6_228 rfl ⟨Nat.le_of_ble_eq_true rfl, Nat.le_of_ble_eq_true rfl⟩ ⟨rfl, rfl⟩ (q0 := 0) rfl rfl rfl rfl rfl rfl (Nat.le_of_ble_eq_true rfl) dX6_changeFor_59 ?_
          refine r_blk (blk' := wM cs h (su (su σ 0 (chgF (σ 0) j i 5)) 2 (chgF (σ 0) j i 5))) (congrArg (wM cs h) (by rw [su_su (k := 2)])) ?_
          refine r_istore (pc := 62) C [(6, .int (purF n (chgF (σ 0) j i 5) i t)), (0, .ref (h 0)), (1, .int (nI j)), (2, .int (nI t)), (3, .int (cfM n (σ 0) j t i)), (4, .int (cfB n (σ 0) j t i)), (5, .int (nI i))] dX6_changeFor_62 (by decide) rfl ?_
          refine r_aload_n (pc := 64) C 1 dX6_changeFor_64 rfl rfl ?_
          refine r_iload_n (pc := 65) C 2 dX6_changeFor_65 rfl rfl ?_
          refine r_iload (pc := 66) C 6 dX6_changeFor_66 rfl ?_
          refine rc_Vv (pc := 68) C (t_X6_changes' l ad D cs h (su (su σ 0 (chgF (σ 0) j i 5)) 2 (chgF (σ 0) j i 5)) pre post (chgF (σ 0) j i 5) ((su_nn (by decide)).trans su_at) n j i f_5 hn h_j (by omega)) mv_X6_changes ml_RX6_183 rfl ⟨Nat.le_of_ble_eq_true rfl, Nat.le_of_ble_eq_true rfl⟩ ⟨rfl, rfl⟩ (q0 := 0) rfl rfl rfl rfl rfl rfl (Nat.le_of_ble_eq_true rfl) dX6_changeFor_68 ?_
          refine r_blk (blk' := wM cs h (su (su σ 0 (chgF (chgF (σ 0) j i 5) j i 5)) 2 (chgF (σ 0) j i 5))) (congrArg (wM cs h) (by rw [su_cm (k := 2) (j := 0) (by decide), su_su (k := 0)])) ?_
          have f_6 : chgF (chgF (σ 0) j i 5) j i 5 0 = nI n := chgF_0 f_5 5
          refine r_blk (blk' := wM cs h (su (su σ 0 (σ 0)) 2 (chgF (σ 0) j i 5))) (by rw [show (chgF (chgF (σ 0) j i 5) j i 5 : Nat → Int32) = σ 0 from (chg_inv (fun q => ‹¬ i = j› q.symm))] <;> rfl) ?_
          refine r_blk (blk' := wM cs h (su σ 2 (chgF (σ 0) j i 5))) (congrArg (wM cs h) (by rw [su_id (k := 0) (f := σ 0) (rfl)])) ?_
          refine r_iload (pc := 71) C 0 dX6_changeFor_71 rfl ?_
          refine r_iload_n (pc := 73) C 4 dX6_changeFor_73 rfl rfl ?_
          refine r_icmp_le (pc := 74) C 82 dX6_changeFor_74 (by decide) (fun c_7 => ?_) (fun c_7 => ?_)
          · skip
            refine r_iload (pc := 82) C 5 dX6_changeFor_82 rfl ?_
            refine r_istore (pc := 84) C [(4, .int (cfB n (σ 0) j t i)), (6, .int (purF n (chgF (σ 0) j i 5) i t)), (0, .ref (h 0)), (1, .int (nI j)), (2, .int (nI t)), (3, .int (cfM n (σ 0) j t i)), (5, .int (nI i))] dX6_changeFor_84 (by decide) rfl ?_
            refine r_iload_n (pc := 86) C 5 dX6_changeFor_86 rfl rfl ?_
            refine r_iload (pc := 87) C 1 dX6_changeFor_87 rfl ?_
            refine rc_Si (pc := 89) C (t_X6_greatest l ad D (tysW cs) (wM cs h (su σ 2 (chgF (σ 0) j i 5))) pre post  (cfM n (σ 0) j t i) (purF n (chgF (σ 0) j i 5) i t) ) ms_X6_greatest ml_RX6_186 rfl ⟨Nat.le_of_ble_eq_true rfl, Nat.le_of_ble_eq_true rfl⟩ ⟨rfl, rfl⟩ rfl rfl rfl (Nat.le_of_ble_eq_true rfl) dX6_changeFor_89 ?_
            refine r_istore_n (pc := 92) C [(3, .int (mxI (cfM n (σ 0) j t i) (purF n (chgF (σ 0) j i 5) i t))), (4, .int (cfB n (σ 0) j t i)), (6, .int (purF n (chgF (σ 0) j i 5) i t)), (0, .ref (h 0)), (1, .int (nI j)), (2, .int (nI t)), (5, .int (nI i))] dX6_changeFor_92 rfl (by decide) rfl ?_
            refine r_iinc (pc := 93) C (nI (i + 1)) 6 [(5, .int (nI (i + 1))), (3, .int (mxI (cfM n (σ 0) j t i) (purF n (chgF (σ 0) j i 5) i t))), (4, .int (cfB n (σ 0) j t i)), (6, .int (purF n (chgF (σ 0) j i 5) i t)), (0, .ref (h 0)), (1, .int (nI j)), (2, .int (nI t))] dX6_changeFor_93 rfl (nI_1 _) (by decide) rfl ?_
            refine r_goto (pc := 96) C 31 dX6_changeFor_96 (by decide) ?_
            refine r_pick (lv' := [(0, .ref (h 0)), (1, .int (nI j)), (2, .int (nI t)), (3, .int (mxI (cfM n (σ 0) j t i) (purF n (chgF (σ 0) j i 5) i t))), (4, .int (cfB n (σ 0) j t i)), (5, .int (nI (i + 1)))]) [4, 5, 6, 1, 2, 0] rfl ?_
            refine r_lv (lv' := [(0, .ref (h 0)), (1, .int (nI j)), (2, .int (nI t)), (3, .int (cfM n (σ 0) j t (i + 1))), (4, .int (cfB n (σ 0) j t (i + 1))), (5, .int (nI (i + 1)))]) (lvc rfl (lvc rfl (lvc rfl (lvc (congrArg Value.int (show (mxI (cfM n (σ 0) j t i) (purF n (chgF (σ 0) j i 5) i t) : Int32) = cfM n (σ 0) j t (i + 1) from (if_neg ‹¬ i = j›).symm)) (lvc (congrArg Value.int (show (cfB n (σ 0) j t i : Int32) = cfB n (σ 0) j t (i + 1) from ((if_neg ‹¬ i = j›).trans (if_pos ‹_›)).symm)) (lvc rfl rfl)))))) ?_
            refine r_blk (blk' := wM cs h (su σ 2 (cfA (σ 0) j (i + 1)))) (by rw [show (cfA (σ 0) j (i + 1) : Nat → Int32) = chgF (σ 0) j i 5 from ((if_neg ‹¬ i = j›).symm).symm] <;> rfl) ?_
            exact ih (by omega) (trivial)
          · skip
            refine r_iload (pc := 77) C 6 dX6_changeFor_77 rfl ?_
            refine r_goto (pc := 79) C 84 dX6_changeFor_79 (by decide) ?_
            refine r_istore (pc := 84) C [(4, .int (nI i)), (6, .int (purF n (chgF (σ 0) j i 5) i t)), (0, .ref (h 0)), (1, .int (nI j)), (2, .int (nI t)), (3, .int (cfM n (σ 0) j t i)), (5, .int (nI i))] dX6_changeFor_84 (by decide) rfl ?_
            refine r_iload_n (pc := 86) C 5 dX6_changeFor_86 rfl rfl ?_
            refine r_iload (pc := 87) C 1 dX6_changeFor_87 rfl ?_
            refine rc_Si (pc := 89) C (t_X6_greatest l ad D (tysW cs) (wM cs h (su σ 2 (chgF (σ 0) j i 5))) pre post  (cfM n (σ 0) j t i) (purF n (chgF (σ 0) j i 5) i t) ) ms_X6_greatest ml_RX6_186 rfl ⟨Nat.le_of_ble_eq_true rfl, Nat.le_of_ble_eq_true rfl⟩ ⟨rfl, rfl⟩ rfl rfl rfl (Nat.le_of_ble_eq_true rfl) dX6_changeFor_89 ?_
            refine r_istore_n (pc := 92) C [(3, .int (mxI (cfM n (σ 0) j t i) (purF n (chgF (σ 0) j i 5) i t))), (4, .int (nI i)), (6, .int (purF n (chgF (σ 0) j i 5) i t)), (0, .ref (h 0)), (1, .int (nI j)), (2, .int (nI t)), (5, .int (nI i))] dX6_changeFor_92 rfl (by decide) rfl ?_
            refine r_iinc (pc := 93) C (nI (i + 1)) 6 [(5, .int (nI (i + 1))), (3, .int (mxI (cfM n (σ 0) j t i) (purF n (chgF (σ 0) j i 5) i t))), (4, .int (nI i)), (6, .int (purF n (chgF (σ 0) j i 5) i t)), (0, .ref (h 0)), (1, .int (nI j)), (2, .int (nI t))] dX6_changeFor_93 rfl (nI_1 _) (by decide) rfl ?_
            refine r_goto (pc := 96) C 31 dX6_changeFor_96 (by decide) ?_
            refine r_pick (lv' := [(0, .ref (h 0)), (1, .int (nI j)), (2, .int (nI t)), (3, .int (mxI (cfM n (σ 0) j t i) (purF n (chgF (σ 0) j i 5) i t))), (4, .int (nI i)), (5, .int (nI (i + 1)))]) [4, 5, 6, 1, 2, 0] rfl ?_
            refine r_lv (lv' := [(0, .ref (h 0)), (1, .int (nI j)), (2, .int (nI t)), (3, .int (cfM n (σ 0) j t (i + 1))), (4, .int (cfB n (σ 0) j t (i + 1))), (5, .int (nI (i + 1)))]) (lvc rfl (lvc rfl (lvc rfl (lvc (congrArg Value.int (show (mxI (cfM n (σ 0) j t i) (purF n (chgF (σ 0) j i 5) i t) : Int32) = cfM n (σ 0) j t (i + 1) from (if_neg ‹¬ i = j›).symm)) (lvc (congrArg Value.int (show (nI i : Int32) = cfB n (σ 0) j t (i + 1) from ((if_neg ‹¬ i = j›).trans (if_neg ‹_›)).symm)) (lvc rfl rfl)))))) ?_
            refine r_blk (blk' := wM cs h (su σ 2 (cfA (σ 0) j (i + 1)))) (by rw [show (cfA (σ 0) j (i + 1) : Nat → Int32) = chgF (σ 0) j i 5 from ((if_neg ‹¬ i = j›).symm).symm] <;> rfl) ?_
            exact ih (by omega) (trivial)
    · skip
      have c_2 := bI_0.mp c_2
      refine r_iconst (pc := 15) C (-1) dX6_changeFor_15 (by decide) ?_
      exact r_iret (pc := 16) C hr hlk dX6_changeFor_16 rfl (by first | rfl | (simp [gateI, gateF, *]; done) | simp_all [gateI, gateF]) (by rw [show (gateF (oneB n (nI j) && inB k 1 20) (cfA (σ 0) (nI j).toNatClampNeg n) (σ 2) : Nat → Int32) = σ 2 from (by first | rfl | (simp [gateI, gateF, *]; done) | simp_all [gateI, gateF])] <;> rfl)
theorem t_X6_changeFor' (l : Launch) (ad : Nat → Nat) (D : va_G) (cs : Nat → ClassId) (h : Nat → Nat) (σ : Nat → Nat → Int32) (pre post : va_W) (f0_ : Nat → Int32) (e0_ : σ 0 = f0_) (f2_ : Nat → Int32) (e2_ : σ 2 = f2_) (n : Nat) (o k : Int32) (hN : f0_ 0 = nI n) (hn : n ≤ 8) : CTi l yX6_changeFor cX6_changeFor 7 .int ({ frames := 8, cells := 0, slots := 0, locals := 180 }) ad D (tysW cs) (pre ++ (wM cs h σ ++ post)) [.ref (h 0), .int o, .int k] (gateI (oneB n o && inB k 1 20) (cfB n f0_ o.toNatClampNeg k.toNatClampNeg n) (-1)) (pre ++ (wM cs h (su σ 2 (gateF (oneB n o && inB k 1 20) (cfA f0_ o.toNatClampNeg n) (f2_))) ++ post)) := by
  subst e0_; subst e2_
  exact t_X6_changeFor l ad D cs h σ pre post n o k hN hn
