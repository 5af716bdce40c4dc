theorem dX6_isShort_0 : decode cX6_isShort 0 = .ok (.iload_n 0, 1) := by decide +kernel
theorem dX6_isShort_1 : decode cX6_isShort 1 = .ok (.i2l, 1) := by decide +kernel
theorem dX6_isShort_2 : decode cX6_isShort 2 = .ok (.lconst 1, 1) := by decide +kernel
theorem dX6_isShort_3 : decode cX6_isShort 3 = .ok (.ldc2_w 234, 3) := by decide +kernel
theorem dX6_isShort_6 : decode cX6_isShort 6 = .ok (.invokestatic 57, 3) := by decide +kernel
theorem dX6_isShort_9 : decode cX6_isShort 9 = .ok (.ireturn, 1) := by decide +kernel
set_option maxHeartbeats 400000 in
set_option maxRecDepth 20000 in
theorem t_X6_isShort (l : Launch) (ad : Nat → Nat) (D : va_G) (tys : List (ClassId × FieldType)) (bk : va_W) (pre post : va_W) (x : Int32)  : CTi l yX6_isShort cX6_isShort 1 .boolean ({ frames := 1, cells := 0, slots := 0, locals := 25 }) ad D tys (pre ++ (bk ++ post)) [.int x] (bI (inB x 1 20 = true)) (pre ++ (bk ++ post)) := by
  refine CTi.of (lv0 := [(0, .int x)]) (by decide) rfl (Nat.le_of_ble_eq_true rfl) (fun p e s m args below meth c A C hr hlk => ?_)
  have C : Cx p s m args c cX6_isShort 1 RX6 ad D tys A := C
  refine r_iload_n (pc := 0) C 0 dX6_isShort_0 rfl rfl ?_
  refine r_i2l (pc := 1) C dX6_isShort_1 ?_
  refine r_lconst (pc := 2) C 1 dX6_isShort_2 (by decide) ?_
  refine r_ldc2 (pc := 3) C dX6_isShort_3 cn_RX6_234 ?_
  refine rc_Si (pc := 6) C (t_X6_isIn l ad D tys bk pre post  x (1 : Int32) (20 : Int32) ) ms_X6_isIn ml_RX6_57 rfl ⟨Nat.le_of_ble_eq_true rfl, Nat.le_of_ble_eq_true rfl⟩ ⟨rfl, rfl⟩ rfl rfl rfl (Nat.le_of_ble_eq_true rfl) dX6_isShort_6 ?_
  exact r_iret (pc := 9) C hr hlk dX6_isShort_9 bI_nar (by first | rfl | simp [bI, *]) rfl
theorem dX6_mind_0 : decode cX6_mind 0 = .ok (.aload_n 0, 1) := by decide +kernel
theorem dX6_mind_1 : decode cX6_mind 1 = .ok (.iload_n 1, 1) := by decide +kernel
theorem dX6_mind_2 : decode cX6_mind 2 = .ok (.invokevirtual 168, 3) := by decide +kernel
theorem dX6_mind_5 : decode cX6_mind 5 = .ok (.ifCond .eq 27, 3) := by decide +kernel
theorem dX6_mind_8 : decode cX6_mind 8 = .ok (.iload_n 2, 1) := by decide +kernel
theorem dX6_mind_9 : decode cX6_mind 9 = .ok (.i2l, 1) := by decide +kernel
theorem dX6_mind_10 : decode cX6_mind 10 = .ok (.lconst 0, 1) := by decide +kernel
theorem dX6_mind_11 : decode cX6_mind 11 = .ok (.ldc2_w 154, 3) := by decide +kernel
theorem dX6_mind_14 : decode cX6_mind 14 = .ok (.invokestatic 57, 3) := by decide +kernel
theorem dX6_mind_17 : decode cX6_mind 17 = .ok (.ifCond .eq 15, 3) := by decide +kernel
theorem dX6_mind_20 : decode cX6_mind 20 = .ok (.iload_n 3, 1) := by decide +kernel
theorem dX6_mind_21 : decode cX6_mind 21 = .ok (.i2l, 1) := by decide +kernel
theorem dX6_mind_22 : decode cX6_mind 22 = .ok (.lconst 0, 1) := by decide +kernel
theorem dX6_mind_23 : decode cX6_mind 23 = .ok (.ldc2_w 146, 3) := by decide +kernel
theorem dX6_mind_26 : decode cX6_mind 26 = .ok (.invokestatic 57, 3) := by decide +kernel
theorem dX6_mind_29 : decode cX6_mind 29 = .ok (.ifCond .ne 5, 3) := by decide +kernel
theorem dX6_mind_32 : decode cX6_mind 32 = .ok (.iconst (-1), 1) := by decide +kernel
theorem dX6_mind_33 : decode cX6_mind 33 = .ok (.ireturn, 1) := by decide +kernel
theorem dX6_mind_34 : decode cX6_mind 34 = .ok (.aload_n 0, 1) := by decide +kernel
theorem dX6_mind_35 : decode cX6_mind 35 = .ok (.getfield 7, 3) := by decide +kernel
theorem dX6_mind_38 : decode cX6_mind 38 = .ok (.bipush 8, 2) := by decide +kernel
theorem dX6_mind_40 : decode cX6_mind 40 = .ok (.iconst 5, 1) := by decide +kernel
theorem dX6_mind_41 : decode cX6_mind 41 = .ok (.iload_n 1, 1) := by decide +kernel
theorem dX6_mind_42 : decode cX6_mind 42 = .ok (.imul, 1) := by decide +kernel
theorem dX6_mind_43 : decode cX6_mind 43 = .ok (.iadd, 1) := by decide +kernel
theorem dX6_mind_44 : decode cX6_mind 44 = .ok (.iconst 2, 1) := by decide +kernel
theorem dX6_mind_45 : decode cX6_mind 45 = .ok (.iadd, 1) := by decide +kernel
theorem dX6_mind_46 : decode cX6_mind 46 = .ok (.iload_n 3, 1) := by decide +kernel
theorem dX6_mind_47 : decode cX6_mind 47 = .ok (.iastore, 1) := by decide +kernel
theorem dX6_mind_48 : decode cX6_mind 48 = .ok (.aload_n 0, 1) := by decide +kernel
theorem dX6_mind_49 : decode cX6_mind 49 = .ok (.bipush 8, 2) := by decide +kernel
theorem dX6_mind_51 : decode cX6_mind 51 = .ok (.iconst 5, 1) := by decide +kernel
theorem dX6_mind_52 : decode cX6_mind 52 = .ok (.iload_n 1, 1) := by decide +kernel
theorem dX6_mind_53 : decode cX6_mind 53 = .ok (.imul, 1) := by decide +kernel
theorem dX6_mind_54 : decode cX6_mind 54 = .ok (.iadd, 1) := by decide +kernel
theorem dX6_mind_55 : decode cX6_mind 55 = .ok (.iload_n 2, 1) := by decide +kernel
theorem dX6_mind_56 : decode cX6_mind 56 = .ok (.invokevirtual 150, 3) := by decide +kernel
theorem dX6_mind_59 : decode cX6_mind 59 = .ok (.ireturn, 1) := by decide +kernel
set_option maxHeartbeats 400000 in
set_option maxRecDepth 20000 in
theorem t_X6_mind (l : Launch) (ad : Nat → Nat) (D : va_G) (cs : Nat → ClassId) (h : Nat → Nat) (σ : Nat → Nat → Int32) (pre post : va_W) (n : Nat) (o k w : Int32) (hN : σ 0 0 = nI n) (hn : n ≤ 8) : CTi l yX6_mind cX6_mind 4 .int ({ frames := 1, cells := 0, slots := 0, locals := 25 }) ad D (tysW cs) (pre ++ (wM cs h σ ++ post)) [.ref (h 0), .int o, .int k, .int w] (gateI (oneB n o && (inB k 0 5 && inB w 0 99)) (σ 0 (8 + 5 * o.toNatClampNeg)) (-1)) (pre ++ (wM cs h (su σ 0 (gateF (oneB n o && (inB k 0 5 && inB w 0 99)) (upd (upd (σ 0) (8 + 5 * o.toNatClampNeg + 2) w) (8 + 5 * o.toNatClampNeg) k) (σ 0))) ++ post)) := by
  refine CTi.of (lv0 := [(0, .ref (h 0)), (1, .int o), (2, .int k), (3, .int w)]) (by decide) rfl (Nat.le_of_ble_eq_true rfl) (fun p e s m args below meth c A C hr hlk => ?_)
  have C : Cx p s m args c cX6_mind 4 RX6 ad D (tysW cs) A := C
  refine r_aload_n (pc := 0) C 0 dX6_mind_0 rfl rfl ?_
  refine r_iload_n (pc := 1) C 1 dX6_mind_1 rfl rfl ?_
  refine rc_Vi (pc := 2) C (t_X6_isOne' l ad D cs h σ pre post (σ 0) (rfl) n o hN hn) mv_X6_isOne ml_RX6_168 rfl ⟨Nat.le_of_ble_eq_true rfl, Nat.le_of_ble_eq_true rfl⟩ ⟨rfl, rfl⟩ (q0 := 0) rfl rfl rfl rfl rfl rfl (Nat.le_of_ble_eq_true rfl) dX6_mind_2 ?_
  refine r_if_eq (pc := 5) C 32 dX6_mind_5 (by decide) (fun c_1 => ?_) (fun c_1 => ?_)
  · skip
    have c_1 := bI_0.mp c_1
    refine r_iconst (pc := 32) C (-1) dX6_mind_32 (by decide) ?_
    exact r_iret (pc := 33) C hr hlk dX6_mind_33 rfl (by first | rfl | (simp [gateI, gateF, upd, *]; done) | simp_all [gateI, gateF, upd]) (by rw [show (gateF (oneB n o && (inB k 0 5 && inB w 0 99)) (upd (upd (σ 0) (8 + 5 * o.toNatClampNeg + 2) w) (8 + 5 * o.toNatClampNeg) k) (σ 0) : Nat → Int32) = σ 0 from (by first | rfl | (simp [gateI, gateF, upd, *]; done) | simp_all [gateI, gateF, upd])]; first | rfl | done)
  · skip
    have c_1 := bI_n.mp c_1
    obtain ⟨j, h_j, rfl⟩ := one_nat (by omega) c_1
    have e_j : (nI j).toNatClampNeg = j := nI_clamp (by omega)
    refine r_iload_n (pc := 8) C 2 dX6_mind_8 rfl rfl ?_
    refine r_i2l (pc := 9) C dX6_mind_9 ?_
    refine r_lconst (pc := 10) C 0 dX6_mind_10 (by decide) ?_
    refine r_ldc2 (pc := 11) C dX6_mind_11 cn_RX6_154 ?_
    refine rc_Si (pc := 14) C (t_X6_isIn l ad D (tysW cs) (wM cs h σ) pre post  k (0 : Int32) (5 : Int32) ) ms_X6_isIn ml_RX6_57 rfl ⟨Nat.le_of_ble_eq_true rfl, Nat.le_of_ble_eq_true rfl⟩ ⟨rfl, rfl⟩ rfl rfl rfl (Nat.le_of_ble_eq_true rfl) dX6_mind_14 ?_
    refine r_if_eq (pc := 17) C 32 dX6_mind_17 (by decide) (fun c_2 => ?_) (fun c_2 => ?_)
    · skip
      have c_2 := bI_0.mp c_2
      refine r_iconst (pc := 32) C (-1) dX6_mind_32 (by decide) ?_
      exact r_iret (pc := 33) C hr hlk dX6_mind_33 rfl (by first | rfl | (simp [gateI, gateF, upd, *]; done) | simp_all [gateI, gateF, upd]) (by rw [show (gateF (oneB n (nI j) && (inB k 0 5 && inB w 0 99)) (upd (upd (σ 0) (8 + 5 * (nI j).toNatClampNeg + 2) w) (8 + 5 * (nI j).toNatClampNeg) k) (σ 0) : Nat → Int32) = σ 0 from (by first | rfl | (simp [gateI, gateF, upd, *]; done) | simp_all [gateI, gateF, upd])]; first | rfl | done)
    · skip
      have c_2 := bI_n.mp c_2
      refine r_iload_n (pc := 20) C 3 dX6_mind_20 rfl rfl ?_
      refine r_i2l (pc := 21) C dX6_mind_21 ?_
      refine r_lconst (pc := 22) C 0 dX6_mind_22 (by decide) ?_
      refine r_ldc2 (pc := 23) C dX6_mind_23 cn_RX6_146 ?_
      refine rc_Si (pc := 26) C (t_X6_isIn l ad D (tysW cs) (wM cs h σ) pre post  w (0 : Int32) (99 : Int32) ) ms_X6_isIn ml_RX6_57 rfl ⟨Nat.le_of_ble_eq_true rfl, Nat.le_of_ble_eq_true rfl⟩ ⟨rfl, rfl⟩ rfl rfl rfl (Nat.le_of_ble_eq_true rfl) dX6_mind_26 ?_
      refine r_if_ne (pc := 29) C 34 dX6_mind_29 (by decide) (fun c_3 => ?_) (fun c_3 => ?_)
      · skip
        have c_3 := bI_n.mp c_3
        refine r_aload_n (pc := 34) C 0 dX6_mind_34 rfl rfl ?_
        refine mg_s (pc := 35) C fl_RX6_7 dX6_mind_35 ?_
        refine r_bipush (pc := 38) C 8 dX6_mind_38 (by decide) ?_
        refine r_iconst (pc := 40) C 5 dX6_mind_40 (by decide) ?_
        refine r_iload_n (pc := 41) C 1 dX6_mind_41 rfl rfl ?_
        refine r_imul (pc := 42) C dX6_mind_42 ?_
        refine r_eqi (y := nI (5 * j)) (pk_mul 5 j) ?_
        refine r_iadd (pc := 43) C dX6_mind_43 ?_
        refine r_eqi (y := nI (8 + 5 * j)) (nI_add 8 (5 * j)) ?_
        refine r_iconst (pc := 44) C 2 dX6_mind_44 (by decide) ?_
        refine r_iadd (pc := 45) C dX6_mind_45 ?_
        refine r_eqi (y := nI (8 + 5 * j + 2)) (nI_add (8 + 5 * j) 2) ?_
        refine r_iload_n (pc := 46) C 3 dX6_mind_46 rfl rfl ?_
        refine as_s (pc := 47) C (8 + 5 * j + 2) (rfl) (by omega) dX6_mind_47 (σ 0) (rfl) ?_
        refine r_aload_n (pc := 48) C 0 dX6_mind_48 rfl rfl ?_
        refine r_bipush (pc := 49) C 8 dX6_mind_49 (by decide) ?_
        refine r_iconst (pc := 51) C 5 dX6_mind_51 (by decide) ?_
        refine r_iload_n (pc := 52) C 1 dX6_mind_52 rfl rfl ?_
        refine r_imul (pc := 53) C dX6_mind_53 ?_
        refine r_eqi (y := nI (5 * j)) (pk_mul 5 j) ?_
        refine r_iadd (pc := 54) C dX6_mind_54 ?_
        refine r_eqi (y := nI (8 + 5 * j)) (nI_add 8 (5 * j)) ?_
        refine r_iload_n (pc := 55) C 2 dX6_mind_55 rfl rfl ?_
        refine rc_Vi (pc := 56) C (t_X6_becomes' l ad D cs h (su σ 0 (upd (σ 0) (8 + 5 * j + 2) w)) pre post (upd (σ 0) (8 + 5 * j + 2) w) (su_at) (8 + 5 * j) k (by omega)) mv_X6_becomes ml_RX6_150 rfl ⟨Nat.le_of_ble_eq_true rfl, Nat.le_of_ble_eq_true rfl⟩ ⟨rfl, rfl⟩ (q0 := 0) rfl rfl rfl rfl rfl rfl (Nat.le_of_ble_eq_true rfl) dX6_mind_56 ?_
        refine r_blk (blk' := wM cs h (su σ 0 (upd (upd (σ 0) (8 + 5 * j + 2) w) (8 + 5 * j) k))) (congrArg (wM cs h) (by rw [su_su (k := 0)])) ?_
        exact r_iret (pc := 59) C hr hlk dX6_mind_59 rfl (by first | rfl | (simp [gateI, gateF, upd, *]; done) | simp_all [gateI, gateF, upd]) (by rw [show (gateF (oneB n (nI j) && (inB k 0 5 && inB w 0 99)) (upd (upd (σ 0) (8 + 5 * (nI j).toNatClampNeg + 2) w) (8 + 5 * (nI j).toNatClampNeg) k) (σ 0) : Nat → Int32) = upd (upd (σ 0) (8 + 5 * j + 2) w) (8 + 5 * j) k from (by first | rfl | (simp [gateI, gateF, upd, *]; done) | simp_all [gateI, gateF, upd])]; first | rfl | done)
      · skip
        have c_3 := bI_0.mp c_3
        refine r_iconst (pc := 32) C (-1) dX6_mind_32 (by decide) ?_
        exact r_iret (pc := 33) C hr hlk dX6_mind_33 rfl (by first | rfl | (simp [gateI, gateF, upd, *]; done) | simp_all [gateI, gateF, upd]) (by rw [show (gateF (oneB n (nI j) && (inB k 0 5 && inB w 0 99)) (upd (upd (σ 0) (8 + 5 * (nI j).toNatClampNeg + 2) w) (8 + 5 * (nI j).toNatClampNeg) k) (σ 0) : Nat → Int32) = σ 0 from (by first | rfl | (simp [gateI, gateF, upd, *]; done) | simp_all [gateI, gateF, upd])]; first | rfl | done)
theorem t_X6_mind' (l : Launch) (ad : Nat → Nat) (D : va_G) (cs : Nat → ClassId) (h : Nat → Nat) (σ : Nat → Nat → Int32) (pre post : va_W) (f0_ : Nat → Int32) (e0_ : σ 0 = f0_) (n : Nat) (o k w : Int32) (hN : f0_ 0 = nI n) (hn : n ≤ 8) : CTi l yX6_mind cX6_mind 4 .int ({ frames := 1, cells := 0, slots := 0, locals := 25 }) ad D (tysW cs) (pre ++ (wM cs h σ ++ post)) [.ref (h 0), .int o, .int k, .int w] (gateI (oneB n o && (inB k 0 5 && inB w 0 99)) (f0_ (8 + 5 * o.toNatClampNeg)) (-1)) (pre ++ (wM cs h (su σ 0 (gateF (oneB n o && (inB k 0 5 && inB w 0 99)) (upd (upd f0_ (8 + 5 * o.toNatClampNeg + 2) w) (8 + 5 * o.toNatClampNeg) k) f0_)) ++ post)) := by
  subst e0_
  exact t_X6_mind l ad D cs h σ pre post n o k w hN hn
theorem dX6_change_0 : decode cX6_change 0 = .ok (.iload_n 2, 1) := by decide +kernel
theorem dX6_change_1 : decode cX6_change 1 = .ok (.iconst 1, 1) := by decide +kernel
theorem dX6_change_2 : decode cX6_change 2 = .ok (.if_icmp .eq 8, 3) := by decide +kernel
theorem dX6_change_5 : decode cX6_change 5 = .ok (.iload_n 2, 1) := by decide +kernel
theorem dX6_change_6 : decode cX6_change 6 = .ok (.iconst 3, 1) := by decide +kernel
theorem dX6_change_7 : decode cX6_change 7 = .ok (.if_icmp .ne 15, 3) := by decide +kernel
theorem dX6_change_10 : decode cX6_change 10 = .ok (.iload_n 3, 1) := by decide +kernel
theorem dX6_change_11 : decode cX6_change 11 = .ok (.i2l, 1) := by decide +kernel
theorem dX6_change_12 : decode cX6_change 12 = .ok (.lconst 0, 1) := by decide +kernel
theorem dX6_change_13 : decode cX6_change 13 = .ok (.ldc2_w 146, 3) := by decide +kernel
theorem dX6_change_16 : decode cX6_change 16 = .ok (.invokestatic 57, 3) := by decide +kernel
theorem dX6_change_19 : decode cX6_change 19 = .ok (.goto 25, 3) := by decide +kernel
theorem dX6_change_22 : decode cX6_change 22 = .ok (.iload_n 2, 1) := by decide +kernel
theorem dX6_change_23 : decode cX6_change 23 = .ok (.iconst 4, 1) := by decide +kernel
theorem dX6_change_24 : decode cX6_change 24 = .ok (.if_icmp .ne 19, 3) := by decide +kernel
theorem dX6_change_27 : decode cX6_change 27 = .ok (.iload_n 3, 1) := by decide +kernel
theorem dX6_change_28 : decode cX6_change 28 = .ok (.i2l, 1) := by decide +kernel
theorem dX6_change_29 : decode cX6_change 29 = .ok (.lconst 0, 1) := by decide +kernel
theorem dX6_change_30 : decode cX6_change 30 = .ok (.ldc2_w 181, 3) := by decide +kernel
theorem dX6_change_33 : decode cX6_change 33 = .ok (.invokestatic 57, 3) := by decide +kernel
theorem dX6_change_36 : decode cX6_change 36 = .ok (.ifCond .eq 7, 3) := by decide +kernel
theorem dX6_change_39 : decode cX6_change 39 = .ok (.iconst 1, 1) := by decide +kernel
theorem dX6_change_40 : decode cX6_change 40 = .ok (.goto 4, 3) := by decide +kernel
theorem dX6_change_43 : decode cX6_change 43 = .ok (.iconst 0, 1) := by decide +kernel
theorem dX6_change_44 : decode cX6_change 44 = .ok (.istore 4, 2) := by decide +kernel
theorem dX6_change_46 : decode cX6_change 46 = .ok (.aload_n 0, 1) := by decide +kernel
theorem dX6_change_47 : decode cX6_change 47 = .ok (.iload_n 1, 1) := by decide +kernel
theorem dX6_change_48 : decode cX6_change 48 = .ok (.invokevirtual 168, 3) := by decide +kernel
theorem dX6_change_51 : decode cX6_change 51 = .ok (.ifCond .eq 24, 3) := by decide +kernel
theorem dX6_change_54 : decode cX6_change 54 = .ok (.iload 4, 2) := by decide +kernel
theorem dX6_change_56 : decode cX6_change 56 = .ok (.ifCond .eq 19, 3) := by decide +kernel
theorem dX6_change_59 : decode cX6_change 59 = .ok (.aload_n 0, 1) := by decide +kernel
theorem dX6_change_60 : decode cX6_change 60 = .ok (.bipush 8, 2) := by decide +kernel
theorem dX6_change_62 : decode cX6_change 62 = .ok (.iconst 5, 1) := by decide +kernel
theorem dX6_change_63 : decode cX6_change 63 = .ok (.iload_n 1, 1) := by decide +kernel
theorem dX6_change_64 : decode cX6_change 64 = .ok (.imul, 1) := by decide +kernel
theorem dX6_change_65 : decode cX6_change 65 = .ok (.iadd, 1) := by decide +kernel
theorem dX6_change_66 : decode cX6_change 66 = .ok (.iload_n 2, 1) := by decide +kernel
theorem dX6_change_67 : decode cX6_change 67 = .ok (.iadd, 1) := by decide +kernel
theorem dX6_change_68 : decode cX6_change 68 = .ok (.iload_n 3, 1) := by decide +kernel
theorem dX6_change_69 : decode cX6_change 69 = .ok (.invokevirtual 150, 3) := by decide +kernel
theorem dX6_change_72 : decode cX6_change 72 = .ok (.goto 4, 3) := by decide +kernel
theorem dX6_change_75 : decode cX6_change 75 = .ok (.iconst (-1), 1) := by decide +kernel
theorem dX6_change_76 : decode cX6_change 76 = .ok (.ireturn, 1) := by decide +kernel
set_option maxHeartbeats 400000 in
set_option maxRecDepth 20000 in
theorem t_X6_change (l : Launch) (ad : Nat → Nat) (D : va_G) (cs : Nat → ClassId) (h : Nat → Nat) (σ : Nat → Nat → Int32) (pre post : va_W) (n : Nat) (o w v : Int32) (hN : σ 0 0 = nI n) (hn : n ≤ 8) : CTi l yX6_change cX6_change 5 .int ({ frames := 1, cells := 0, slots := 0, locals := 25 }) ad D (tysW cs) (pre ++ (wM cs h σ ++ post)) [.ref (h 0), .int o, .int w, .int v] (gateI (oneB n o && canB w v) (σ 0 (8 + 5 * o.toNatClampNeg + w.toNatClampNeg)) (-1)) (pre ++ (wM cs h (su σ 0 (gateF (oneB n o && canB w v) (upd (σ 0) (8 + 5 * o.toNatClampNeg + w.toNatClampNeg) v) (σ 0))) ++ post)) := by
  refine CTi.of (lv0 := [(0, .ref (h 0)), (1, .int o), (2, .int w), (3, .int v)]) (by decide) rfl (Nat.le_of_ble_eq_true rfl) (fun p e s m args below meth c A C hr hlk => ?_)
  have C : Cx p s m args c cX6_change 5 RX6 ad D (tysW cs) A := C
  refine r_iload_n (pc := 0) C 2 dX6_change_0 rfl rfl ?_
  refine r_iconst (pc := 1) C 1 dX6_change_1 (by decide) ?_
  refine r_icmp_eq (pc := 2) C 10 dX6_change_2 (by decide) (fun c_1 => ?_) (fun c_1 => ?_)
  · skip
    subst c_1
    refine r_iload_n (pc := 10) C 3 dX6_change_10 rfl rfl ?_
    refine r_i2l (pc := 11) C dX6_change_11 ?_
    refine r_lconst (pc := 12) C 0 dX6_change_12 (by decide) ?_
    refine r_ldc2 (pc := 13) C dX6_change_13 cn_RX6_146 ?_
    refine rc_Si (pc := 16) C (t_X6_isIn l ad D (tysW cs) (wM cs h σ) pre post  v (0 : Int32) (99 : Int32) ) ms_X6_isIn ml_RX6_57 rfl ⟨Nat.le_of_ble_eq_true rfl, Nat.le_of_ble_eq_true rfl⟩ ⟨rfl, rfl⟩ rfl rfl rfl (Nat.le_of_ble_eq_true rfl) dX6_change_16 ?_
    refine r_goto (pc := 19) C 44 dX6_change_19 (by decide) ?_
    refine r_istore (pc := 44) C [(4, .int (bI (inB v (0 : Int32) (99 : Int32) = true))), (0, .ref (h 0)), (1, .int o), (2, .int 1), (3, .int v)] dX6_change_44 (by decide) rfl ?_
    refine r_aload_n (pc := 46) C 1 dX6_change_46 rfl rfl ?_
    refine r_iload_n (pc := 47) C 2 dX6_change_47 rfl rfl ?_
    refine rc_Vi (pc := 48) C (t_X6_isOne' l ad D cs h σ pre post (σ 0) (rfl) n o hN hn) mv_X6_isOne ml_RX6_168 rfl ⟨Nat.le_of_ble_eq_true rfl, Nat.le_of_ble_eq_true rfl⟩ ⟨rfl, rfl⟩ (q0 := 0) rfl rfl rfl rfl rfl rfl (Nat.le_of_ble_eq_true rfl) dX6_change_48 ?_
    refine r_if_eq (pc := 51) C 75 dX6_change_51 (by decide) (fun c_2 => ?_) (fun c_2 => ?_)
    · skip
      have c_2 := bI_0.mp c_2
      refine r_iconst (pc := 75) C (-1) dX6_change_75 (by decide) ?_
      exact r_iret (pc := 76) C hr hlk dX6_change_76 rfl (by first | rfl | (simp [gateI, gateF, canB, *]; done) | simp_all [gateI, gateF, canB]) (by rw [show (gateF (oneB n o && canB (1 : Int32) v) (upd (σ 0) (8 + 5 * o.toNatClampNeg + (1 : Int32).toNatClampNeg) v) (σ 0) : Nat → Int32) = σ 0 from (by first | rfl | (simp [gateI, gateF, canB, *]; done) | simp_all [gateI, gateF, canB])]; first | rfl | done)
    · skip
      have c_2 := bI_n.mp c_2
      obtain ⟨j, h_j, rfl⟩ := one_nat (by omega) c_2
      have e_j : (nI j).toNatClampNeg = j := nI_clamp (by omega)
      refine r_iload (pc := 54) C 0 dX6_change_54 rfl ?_
      refine r_if_eq (pc := 56) C 75 dX6_change_56 (by decide) (fun c_3 => ?_) (fun c_3 => ?_)
      · skip
        have c_3 := bI_0.mp c_3
        refine r_iconst (pc := 75) C (-1) dX6_change_75 (by decide) ?_
        exact r_iret (pc := 76) C hr hlk dX6_change_76 rfl (by first | rfl | (simp [gateI, gateF, canB, *]; done) | simp_all [gateI, gateF, canB]) (by rw [show (gateF (oneB n (nI j) && canB (1 : Int32) v) (upd (σ 0) (8 + 5 * (nI j).toNatClampNeg + (1 : Int32).toNatClampNeg) v) (σ 0) : Nat → Int32) = σ 0 from (by first | rfl | (simp [gateI, gateF, canB, *]; done) | simp_all [gateI, gateF, canB])]; first | rfl | done)
      · skip
        have c_3 := bI_n.mp c_3
        refine r_aload_n (pc := 59) C 1 dX6_change_59 rfl rfl ?_
        refine r_bipush (pc := 60) C 8 dX6_change_60 (by decide) ?_
        refine r_iconst (pc := 62) C 5 dX6_change_62 (by decide) ?_
        refine r_iload_n (pc := 63) C 2 dX6_change_63 rfl rfl ?_
        refine r_imul (pc := 64) C dX6_change_64 ?_
        refine r_eqi (y := nI (5 * j)) (pk_mul 5 j) ?_
        refine r_iadd (pc := 65) C dX6_change_65 ?_
        refine r_eqi (y := nI (8 + 5 * j)) (nI_add 8 (5 * j)) ?_
        refine r_iload_n (pc := 66) C 3 dX6_change_66 rfl rfl ?_
        refine r_iadd (pc := 67) C dX6_change_67 ?_
        refine r_eqi (y := nI (8 + 5 * j + 1)) (nI_add (8 + 5 * j) 1) ?_
        refine r_iload_n (pc := 68) C 4 dX6_change_68 rfl rfl ?_
        refine rc_Vi (pc := 69) C (t_X6_becomes' l ad D cs h σ pre post (σ 0) (rfl) (8 + 5 * j + 1) v (by omega)) mv_X6_becomes ml_RX6_150 rfl ⟨Nat.le_of_ble_eq_true rfl, Nat.le_of_ble_eq_true rfl⟩ ⟨rfl, rfl⟩ (q0 := 0) rfl rfl rfl rfl rfl rfl (Nat.le_of_ble_eq_true rfl) dX6_change_69 ?_
        refine r_goto (pc := 72) C 76 dX6_change_72 (by decide) ?_
        exact r_iret (pc := 76) C hr hlk dX6_change_76 rfl (by first | rfl | (simp [gateI, gateF, canB, *]; done) | simp_all [gateI, gateF, canB]) (by rw [show (gateF (oneB n (nI j) && canB (1 : Int32) v) (upd (σ 0) (8 + 5 * (nI j).toNatClampNeg + (1 : Int32).toNatClampNeg) v) (σ 0) : Nat → Int32) = upd (σ 0) (8 + 5 * j + 1) v from (by first | rfl | (simp [gateI, gateF, canB, *]; done) | simp_all [gateI, gateF, canB])]; first | rfl | done)
  · skip
    refine r_iload_n (pc := 5) C 2 dX6_change_5 rfl rfl ?_
    refine r_iconst (pc := 6) C 3 dX6_change_6 (by decide) ?_
    refine r_icmp_ne (pc := 7) C 22 dX6_change_7 (by decide) (fun c_4 => ?_) (fun c_4 => ?_)
    · skip
      refine r_iload_n (pc := 22) C 2 dX6_change_22 rfl rfl ?_
      refine r_iconst (pc := 23) C 4 dX6_change_23 (by decide) ?_
      refine r_icmp_ne (pc := 24) C 43 dX6_change_24 (by decide) (fun c_5 => ?_) (fun c_5 => ?_)
      · skip
        refine r_iconst (pc := 43) C 0 dX6_change_43 (by decide) ?_
        refine r_istore (pc := 44) C [(4, .int 0), (0, .ref (h 0)), (1, .int o), (2, .int w), (3, .int v)] dX6_change_44 (by decide) rfl ?_
        refine r_aload_n (pc := 46) C 1 dX6_change_46 rfl rfl ?_
        refine r_iload_n (pc := 47) C 2 dX6_change_47 rfl rfl ?_
        refine rc_Vi (pc := 48) C (t_X6_isOne' l ad D cs h σ pre post (σ 0) (rfl) n o hN hn) mv_X6_isOne ml_RX6_168 rfl ⟨Nat.le_of_ble_eq_true rfl, Nat.le_of_ble_eq_true rfl⟩ ⟨rfl, rfl⟩ (q0 := 0) rfl rfl rfl rfl rfl rfl (Nat.le_of_ble_eq_true rfl) dX6_change_48 ?_
        refine r_if_eq (pc := 51) C 75 dX6_change_51 (by decide) (fun c_6 => ?_) (fun c_6 => ?_)
        · skip
          have c_6 := bI_0.mp c_6
          refine r_iconst (pc := 75) C (-1) dX6_change_75 (by decide) ?_
          exact r_iret (pc := 76) C hr hlk dX6_change_76 rfl (by first | rfl | (simp [gateI, gateF, canB, *]; done) | simp_all [gateI, gateF, canB]) (by rw [show (gateF (oneB n o && canB w v) (upd (σ 0) (8 + 5 * o.toNatClampNeg + w.toNatClampNeg) v) (σ 0) : Nat → Int32) = σ 0 from (by first | rfl | (simp [gateI, gateF, canB, *]; done) | simp_all [gateI, gateF, canB])]; first | rfl | done)
        · skip
          have c_6 := bI_n.mp c_6
          obtain ⟨j, h_j, rfl⟩ := one_nat (by omega) c_6
          have e_j : (nI j).toNatClampNeg = j := nI_clamp (by omega)
          refine r_iload (pc := 54) C 0 dX6_change_54 rfl ?_
          refine r_if_eq (pc := 56) C 75 dX6_change_56 (by decide) (fun c_7 => ?_) (fun c_7 => ?_)
          · skip
            revert c_7; intro c_7
            refine r_iconst (pc := 75) C (-1) dX6_change_75 (by decide) ?_
            exact r_iret (pc := 76) C hr hlk dX6_change_76 rfl (by first | rfl | (simp [gateI, gateF, canB, *]; done) | simp_all [gateI, gateF, canB]) (by rw [show (gateF (oneB n (nI j) && canB w v) (upd (σ 0) (8 + 5 * (nI j).toNatClampNeg + w.toNatClampNeg) v) (σ 0) : Nat → Int32) = σ 0 from (by first | rfl | (simp [gateI, gateF, canB, *]; done) | simp_all [gateI, gateF, canB])]; first | rfl | done)
          · skip
            revert c_7; intro c_7
            exact absurd c_7 (by decide)
      · skip
        subst c_5
        refine r_iload_n (pc := 27) C 3 dX6_change_27 rfl rfl ?_
        refine r_i2l (pc := 28) C dX6_change_28 ?_
        refine r_lconst (pc := 29) C 0 dX6_change_29 (by decide) ?_
        refine r_ldc2 (pc := 30) C dX6_change_30 cn_RX6_181 ?_
        refine rc_Si (pc := 33) C (t_X6_isIn l ad D (tysW cs) (wM cs h σ) pre post  v (0 : Int32) (9999 : Int32) ) ms_X6_isIn ml_RX6_57 rfl ⟨Nat.le_of_ble_eq_true rfl, Nat.le_of_ble_eq_true rfl⟩ ⟨rfl, rfl⟩ rfl rfl rfl (Nat.le_of_ble_eq_true rfl) dX6_change_33 ?_
        refine r_if_eq (pc := 36) C 43 dX6_change_36 (by decide) (fun c_8 => ?_) (fun c_8 => ?_)
        · skip
          have c_8 := bI_0.mp c_8
          refine r_iconst (pc := 43) C 0 dX6_change_43 (by decide) ?_
          refine r_istore (pc := 44) C [(4, .int 0), (0, .ref (h 0)), (1, .int o), (2, .int 4), (3, .int v)] dX6_change_44 (by decide) rfl ?_
          refine r_aload_n (pc := 46) C 1 dX6_change_46 rfl rfl ?_
          refine r_iload_n (pc := 47) C 2 dX6_change_47 rfl rfl ?_
          refine rc_Vi (pc := 48) C (t_X6_isOne' l ad D cs h σ pre post (σ 0) (rfl) n o hN hn) mv_X6_isOne ml_RX6_168 rfl ⟨Nat.le_of_ble_eq_true rfl, Nat.le_of_ble_eq_true rfl⟩ ⟨rfl, rfl⟩ (q0 := 0) rfl rfl rfl rfl rfl rfl (Nat.le_of_ble_eq_true rfl) dX6_change_48 ?_
          refine r_if_eq (pc := 51) C 75 dX6_change_51 (by decide) (fun c_9 => ?_) (fun c_9 => ?_)
          · skip
            have c_9 := bI_0.mp c_9
            refine r_iconst (pc := 75) C (-1) dX6_change_75 (by decide) ?_
            exact r_iret (pc := 76) C hr hlk dX6_change_76 rfl (by first | rfl | (simp [gateI, gateF, canB, *]; done) | simp_all [gateI, gateF, canB]) (by rw [show (gateF (oneB n o && canB (4 : Int32) v) (upd (σ 0) (8 + 5 * o.toNatClampNeg + (4 : Int32).toNatClampNeg) v) (σ 0) : Nat → Int32) = σ 0 from (by first | rfl | (simp [gateI, gateF, canB, *]; done) | simp_all [gateI, gateF, canB])]; first | rfl | done)
          · skip
            have c_9 := bI_n.mp c_9
            obtain ⟨j, h_j, rfl⟩ := one_nat (by omega) c_9
            have e_j : (nI j).toNatClampNeg = j := nI_clamp (by omega)
            refine r_iload (pc := 54) C 0 dX6_change_54 rfl ?_
            refine r_if_eq (pc := 56) C 75 dX6_change_56 (by decide) (fun c_10 => ?_) (fun c_10 => ?_)
            · skip
              revert c_10; intro c_10
              refine r_iconst (pc := 75) C (-1) dX6_change_75 (by decide) ?_
              exact r_iret (pc := 76) C hr hlk dX6_change_76 rfl (by first | rfl | (simp [gateI, gateF, canB, *]; done) | simp_all [gateI, gateF, canB]) (by rw [show (gateF (oneB n (nI j) && canB (4 : Int32) v) (upd (σ 0) (8 + 5 * (nI j).toNatClampNeg + (4 : Int32).toNatClampNeg) v) (σ 0) : Nat → Int32) = σ 0 from (by first | rfl | (simp [gateI, gateF, canB, *]; done) | simp_all [gateI, gateF, canB])]; first | rfl | done)
            · skip
              revert c_10; intro c_10
              exact absurd c_10 (by decide)
        · skip
          have c_8 := bI_n.mp c_8
          refine r_iconst (pc := 39) C 1 dX6_change_39 (by decide) ?_
          refine r_goto (pc := 40) C 44 dX6_change_40 (by decide) ?_
          refine r_istore (pc := 44) C [(4, .int 1), (0, .ref (h 0)), (1, .int o), (2, .int 4), (3, .int v)] dX6_change_44 (by decide) rfl ?_
          refine r_aload_n (pc := 46) C 1 dX6_change_46 rfl rfl ?_
          refine r_iload_n (pc := 47) C 2 dX6_change_47 rfl rfl ?_
          refine rc_Vi (pc := 48) C (t_X6_isOne' l ad D cs h σ pre post (σ 0) (rfl) n o hN hn) mv_X6_isOne ml_RX6_168 rfl ⟨Nat.le_of_ble_eq_true rfl, Nat.le_of_ble_eq_true rfl⟩ ⟨rfl, rfl⟩ (q0 := 0) rfl rfl rfl rfl rfl rfl (Nat.le_of_ble_eq_true rfl) dX6_change_48 ?_
          refine r_if_eq (pc := 51) C 75 dX6_change_51 (by decide) (fun c_11 => ?_) (fun c_11 => ?_)
          · skip
            have c_11 := bI_0.mp c_11
            refine r_iconst (pc := 75) C (-1) dX6_change_75 (by decide) ?_
            exact r_iret (pc := 76) C hr hlk dX6_change_76 rfl (by first | rfl | (simp [gateI, gateF, canB, *]; done) | simp_all [gateI, gateF, canB]) (by rw [show (gateF (oneB n o && canB (4 : Int32) v) (upd (σ 0) (8 + 5 * o.toNatClampNeg + (4 : Int32).toNatClampNeg) v) (σ 0) : Nat → Int32) = σ 0 from (by first | rfl | (simp [gateI, gateF, canB, *]; done) | simp_all [gateI, gateF, canB])]; first | rfl | done)
          · skip
            have c_11 := bI_n.mp c_11
            obtain ⟨j, h_j, rfl⟩ := one_nat (by omega) c_11
            have e_j : (nI j).toNatClampNeg = j := nI_clamp (by omega)
            refine r_iload (pc := 54) C 0 dX6_change_54 rfl ?_
            refine r_if_eq (pc := 56) C 75 dX6_change_56 (by decide) (fun c_12 => ?_) (fun c_12 => ?_)
            · skip
              revert c_12; intro c_12
              exact absurd c_12 (by decide)
            · skip
              revert c_12; intro c_12
              refine r_aload_n (pc := 59) C 1 dX6_change_59 rfl rfl ?_
              refine r_bipush (pc := 60) C 8 dX6_change_60 (by decide) ?_
              refine r_iconst (pc := 62) C 5 dX6_change_62 (by decide) ?_
              refine r_iload_n (pc := 63) C 2 dX6_change_63 rfl rfl ?_
              refine r_imul (pc := 64) C dX6_change_64 ?_
              refine r_eqi (y := nI (5 * j)) (pk_mul 5 j) ?_
              refine r_iadd (pc := 65) C dX6_change_65 ?_
              refine r_eqi (y := nI (8 + 5 * j)) (nI_add 8 (5 * j)) ?_
              refine r_iload_n (pc := 66) C 3 dX6_change_66 rfl rfl ?_
              refine r_iadd (pc := 67) C dX6_change_67 ?_
              refine r_eqi (y := nI (8 + 5 * j + 4)) (nI_add (8 + 5 * j) 4) ?_
              refine r_iload_n (pc := 68) C 4 dX6_change_68 rfl rfl ?_
              refine rc_Vi (pc := 69) C (t_X6_becomes' l ad D cs h σ pre post (σ 0) (rfl) (8 + 5 * j + 4) v (by omega)) mv_X6_becomes ml_RX6_150 rfl ⟨Nat.le_of_ble_eq_true rfl, Nat.le_of_ble_eq_true rfl⟩ ⟨rfl, rfl⟩ (q0 := 0) rfl rfl rfl rfl rfl rfl (Nat.le_of_ble_eq_true rfl) dX6_change_69 ?_
              refine r_goto (pc := 72) C 76 dX6_change_72 (by decide) ?_
              exact r_iret (pc := 76) C hr hlk dX6_change_76 rfl (by first | rfl | (simp [gateI, gateF, canB, *]; done) | simp_all [gateI, gateF, canB]) (by rw [show (gateF (oneB n (nI j) && canB (4 : Int32) v) (upd (σ 0) (8 + 5 * (nI j).toNatClampNeg + (4 : Int32).toNatClampNeg) v) (σ 0) : Nat → Int32) = upd (σ 0) (8 + 5 * j + 4) v from (by first | rfl | (simp [gateI, gateF, canB, *]; done) | simp_all [gateI, gateF, canB])]; first | rfl | done)
    · skip
      subst c_4
      refine r_iload_n (pc := 10) C 3 dX6_change_10 rfl rfl ?_
      refine r_i2l (pc := 11) C dX6_change_11 ?_
      refine r_lconst (pc := 12) C 0 dX6_change_12 (by decide) ?_
      refine r_ldc2 (pc := 13) C dX6_change_13 cn_RX6_146 ?_
      refine rc_Si (pc := 16) C (t_X6_isIn l ad D (tysW cs) (wM cs h σ) pre post  v (0 : Int32) (99 : Int32) ) ms_X6_isIn ml_RX6_57 rfl ⟨Nat.le_of_ble_eq_true rfl, Nat.le_of_ble_eq_true rfl⟩ ⟨rfl, rfl⟩ rfl rfl rfl (Nat.le_of_ble_eq_true rfl) dX6_change_16 ?_
      refine r_goto (pc := 19) C 44 dX6_change_19 (by decide) ?_
      refine r_istore (pc := 44) C [(4, .int (bI (inB v (0 : Int32) (99 : Int32) = true))), (0, .ref (h 0)), (1, .int o), (2, .int 3), (3, .int v)] dX6_change_44 (by decide) rfl ?_
      refine r_aload_n (pc := 46) C 1 dX6_change_46 rfl rfl ?_
      refine r_iload_n (pc := 47) C 2 dX6_change_47 rfl rfl ?_
      refine rc_Vi (pc := 48) C (t_X6_isOne' l ad D cs h σ pre post (σ 0) (rfl) n o hN hn) mv_X6_isOne ml_RX6_168 rfl ⟨Nat.le_of_ble_eq_true rfl, Nat.le_of_ble_eq_true rfl⟩ ⟨rfl, rfl⟩ (q0 := 0) rfl rfl rfl rfl rfl rfl (Nat.le_of_ble_eq_true rfl) dX6_change_48 ?_
      refine r_if_eq (pc := 51) C 75 dX6_change_51 (by decide) (fun c_13 => ?_) (fun c_13 => ?_)
      · skip
        have c_13 := bI_0.mp c_13
        refine r_iconst (pc := 75) C (-1) dX6_change_75 (by decide) ?_
        exact r_iret (pc := 76) C hr hlk dX6_change_76 rfl (by first | rfl | (simp [gateI, gateF, canB, *]; done) | simp_all [gateI, gateF, canB]) (by rw [show (gateF (oneB n o && canB (3 : Int32) v) (upd (σ 0) (8 + 5 * o.toNatClampNeg + (3 : Int32).toNatClampNeg) v) (σ 0) : Nat → Int32) = σ 0 from (by first | rfl | (simp [gateI, gateF, canB, *]; done) | simp_all [gateI, gateF, canB])]; first | rfl | done)
      · skip
        have c_13 := bI_n.mp c_13
        obtain ⟨j, h_j, rfl⟩ := one_nat (by omega) c_13
        have e_j : (nI j).toNatClampNeg = j := nI_clamp (by omega)
        refine r_iload (pc := 54) C 0 dX6_change_54 rfl ?_
        refine r_if_eq (pc := 56) C 75 dX6_change_56 (by decide) (fun c_14 => ?_) (fun c_14 => ?_)
        · skip
          have c_14 := bI_0.mp c_14
          refine r_iconst (pc := 75) C (-1) dX6_change_75 (by decide) ?_
          exact r_iret (pc := 76) C hr hlk dX6_change_76 rfl (by first | rfl | (simp [gateI, gateF, canB, *]; done) | simp_all [gateI, gateF, canB]) (by rw [show (gateF (oneB n (nI j) && canB (3 : Int32) v) (upd (σ 0) (8 + 5 * (nI j).toNatClampNeg + (3 : Int32).toNatClampNeg) v) (σ 0) : Nat → Int32) = σ 0 from (by first | rfl | (simp [gateI, gateF, canB, *]; done) | simp_all [gateI, gateF, canB])]; first | rfl | done)
        · skip
          have c_14 := bI_n.mp c_14
          refine r_aload_n (pc := 59) C 1 dX6_change_59 rfl rfl ?_
          refine r_bipush (pc := 60) C 8 dX6_change_60 (by decide) ?_
          refine r_iconst (pc := 62) C 5 dX6_change_62 (by decide) ?_
          refine r_iload_n (pc := 63) C 2 dX6_change_63 rfl rfl ?_
          refine r_imul (pc := 64) C dX6_change_64 ?_
          refine r_eqi (y := nI (5 * j)) (pk_mul 5 j) ?_
          refine r_iadd (pc := 65) C dX6_change_65 ?_
          refine r_eqi (y := nI (8 + 5 * j)) (nI_add 8 (5 * j)) ?_
          refine r_iload_n (pc := 66) C 3 dX6_change_66 rfl rfl ?_
          refine r_iadd (pc := 67) C dX6_change_67 ?_
          refine r_eqi (y := nI (8 + 5 * j + 3)) (nI_add (8 + 5 * j) 3) ?_
          refine r_iload_n (pc := 68) C 4 dX6_change_68 rfl rfl ?_
          refine rc_Vi (pc := 69) C (t_X6_becomes' l ad D cs h σ pre post (σ 0) (rfl) (8 + 5 * j + 3) v (by omega)) mv_X6_becomes ml_RX6_150 rfl ⟨Nat.le_of_ble_eq_true rfl, Nat.le_of_ble_eq_true rfl⟩ ⟨rfl, rfl⟩ (q0 := 0) rfl rfl rfl rfl rfl rfl (Nat.le_of_ble_eq_true rfl) dX6_change_69 ?_
          refine r_goto (pc := 72) C 76 dX6_change_72 (by decide) ?_
          exact r_iret (pc := 76) C hr hlk dX6_change_76 rfl (by first | rfl | (simp [gateI, gateF, canB, *]; done) | simp_all [gateI, gateF, canB]) (by rw [show (gateF (oneB n (nI j) && canB (3 : Int32) v) (upd (σ 0) (8 + 5 * (nI j).toNatClampNeg + (3 : Int32).toNatClampNeg) v) (σ 0) : Nat → Int32) = upd (σ 0) (8 + 5 * j + 3) v from (by first | rfl | (simp [gateI, gateF, canB, *]; done) | simp_all [gateI, gateF, canB])]; first | rfl | done)
theorem t_X6_change' (l : Launch) (ad : Nat → Nat) (D : va_G) (cs : Nat → ClassId) (h : Nat → Nat) (σ : Nat → Nat → Int32) (pre post : va_W) (f0_ : Nat → Int32) (e0_ : σ 0 = f0_) (n : Nat) (o w v : Int32) (hN : f0_ 0 = nI n) (hn : n ≤ 8) : CTi l yX6_change cX6_change 5 .int ({ frames := 1, cells := 0, slots := 0, locals := 25 }) ad D (tysW cs) (pre ++ (wM cs h σ ++ post)) [.ref (h 0), .int o, .int w, .int v] (gateI (oneB n o && canB w v) (f0_ (8 + 5 * o.toNatClampNeg + w.toNatClampNeg)) (-1)) (pre ++ (wM cs h (su σ 0 (gateF (oneB n o && canB w v) (upd f0_ (8 + 5 * o.toNatClampNeg + w.toNatClampNeg) v) f0_)) ++ post)) := by
  subst e0_
  exact t_X6_change l ad D cs h σ pre post n o w v hN hn
theorem dX6_changes_0 : decode cX6_changes 0 = .ok (.iconst 0, 1) := by decide +kernel
theorem dX6_changes_1 : decode cX6_changes 1 = .ok (.istore_n 3, 1) := by decide +kernel
theorem dX6_changes_2 : decode cX6_changes 2 = .ok (.iload_n 3, 1) := by decide +kernel
theorem dX6_changes_3 : decode cX6_changes 3 = .ok (.iconst 5, 1) := by decide +kernel
theorem dX6_changes_4 : decode cX6_changes 4 = .ok (.if_icmp .ge 40, 3) := by decide +kernel
theorem dX6_changes_7 : decode cX6_changes 7 = .ok (.aload_n 0, 1) := by decide +kernel
theorem dX6_changes_8 : decode cX6_changes 8 = .ok (.getfield 7, 3) := by decide +kernel
theorem dX6_changes_11 : decode cX6_changes 11 = .ok (.bipush 8, 2) := by decide +kernel
theorem dX6_changes_13 : decode cX6_changes 13 = .ok (.iconst 5, 1) := by decide +kernel
theorem dX6_changes_14 : decode cX6_changes 14 = .ok (.iload_n 1, 1) := by decide +kernel
theorem dX6_changes_15 : decode cX6_changes 15 = .ok (.imul, 1) := by decide +kernel
theorem dX6_changes_16 : decode cX6_changes 16 = .ok (.iadd, 1) := by decide +kernel
theorem dX6_changes_17 : decode cX6_changes 17 = .ok (.iload_n 3, 1) := by decide +kernel
theorem dX6_changes_18 : decode cX6_changes 18 = .ok (.iadd, 1) := by decide +kernel
theorem dX6_changes_19 : decode cX6_changes 19 = .ok (.aload_n 0, 1) := by decide +kernel
theorem dX6_changes_20 : decode cX6_changes 20 = .ok (.bipush 8, 2) := by decide +kernel
theorem dX6_changes_22 : decode cX6_changes 22 = .ok (.iconst 5, 1) := by decide +kernel
theorem dX6_changes_23 : decode cX6_changes 23 = .ok (.iload_n 2, 1) := by decide +kernel
theorem dX6_changes_24 : decode cX6_changes 24 = .ok (.imul, 1) := by decide +kernel
theorem dX6_changes_25 : decode cX6_changes 25 = .ok (.iadd, 1) := by decide +kernel
theorem dX6_changes_26 : decode cX6_changes 26 = .ok (.iload_n 3, 1) := by decide +kernel
theorem dX6_changes_27 : decode cX6_changes 27 = .ok (.iadd, 1) := by decide +kernel
theorem dX6_changes_28 : decode cX6_changes 28 = .ok (.aload_n 0, 1) := by decide +kernel
theorem dX6_changes_29 : decode cX6_changes 29 = .ok (.iload_n 1, 1) := by decide +kernel
theorem dX6_changes_30 : decode cX6_changes 30 = .ok (.iload_n 3, 1) := by decide +kernel
theorem dX6_changes_31 : decode cX6_changes 31 = .ok (.invokevirtual 156, 3) := by decide +kernel
theorem dX6_changes_34 : decode cX6_changes 34 = .ok (.invokevirtual 150, 3) := by decide +kernel
theorem dX6_changes_37 : decode cX6_changes 37 = .ok (.iastore, 1) := by decide +kernel
theorem dX6_changes_38 : decode cX6_changes 38 = .ok (.iinc 3 1, 3) := by decide +kernel
theorem dX6_changes_41 : decode cX6_changes 41 = .ok (.goto (-39), 3) := by decide +kernel
theorem dX6_changes_44 : decode cX6_changes 44 = .ok (.return_, 1) := by decide +kernel
set_option maxHeartbeats 400000 in
set_option maxRecDepth 20000 in
theorem t_X6_changes (l : Launch) (ad : Nat → Nat) (D : va_G) (cs : Nat → ClassId) (h : Nat → Nat) (σ : Nat → Nat → Int32) (pre post : va_W) (n : Nat) (a b : Nat) (hN : σ 0 0 = nI n) (hn : n ≤ 8) (ha : a < n) (hb : b < n) : CTv l yX6_changes cX6_changes 4 ({ frames := 1, cells := 0, slots := 0, locals := 23 }) ad D (tysW cs) (pre ++ (wM cs h σ ++ post)) [.ref (h 0), .int (nI a), .int (nI b)] (pre ++ (wM cs h (su σ 0 (chgF (σ 0) a b 5)) ++ post)) := by
  refine CTv.of (lv0 := [(0, .ref (h 0)), (1, .int (nI a)), (2, .int (nI b))]) (by decide) rfl (Nat.le_of_ble_eq_true rfl) (fun p e s m args below meth c A C hr hlk => ?_)
  have C : Cx p s m args c cX6_changes 4 RX6 ad D (tysW cs) A := C
  refine r_iconst (pc := 0) C 0 dX6_changes_0 (by decide) ?_
  refine r_istore_n (pc := 1) C [(3, .int 0), (0, .ref (h 0)), (1, .int (nI a)), (2, .int (nI b))] dX6_changes_1 rfl (by decide) rfl ?_
  refine r_pick (lv' := [(0, .ref (h 0)), (1, .int (nI a)), (2, .int (nI b)), (3, .int 0)]) [1, 2, 3, 0] rfl ?_
  refine r_blk (blk' := wM cs h (su σ 0 (chgF (σ 0) a b 0))) (rfl) ?_
  refine r_loop (blkf := fun k => wM cs h (su σ 0 (chgF (σ 0) a b k))) (lvf := fun k => [(0, .ref (h 0)), (1, .int (nI a)), (2, .int (nI b)), (3, .int (nI k))]) (fun k => True) 5 0 (by omega) (trivial) (fun k h_k _ ih => ?_)
  show VX p l e _ s m args below meth c _ D A 4 pre (wM cs h (su σ 0 (chgF (σ 0) a b k))) post 2 [(0, .ref (h 0)), (1, .int (nI a)), (2, .int (nI b)), (3, .int (nI k))] []
  refine r_iload_n (pc := 2) C 3 dX6_changes_2 rfl rfl ?_
  refine r_iconst (pc := 3) C 5 dX6_changes_3 (by decide) ?_
  refine r_icmp_ge (pc := 4) C 44 dX6_changes_4 (by decide) (fun c_1 => ?_) (fun c_1 => ?_)
  · skip
    have c_1 := nIc_ge_t (a := k) (b := 5) (by omega) (by omega) c_1
    obtain rfl : k = 5 := by omega
    exact r_vret (pc := 44) C hr hlk dX6_changes_44 rfl
  · skip
    have c_1 := nIc_ge_f (a := k) (b := 5) (by omega) (by omega) c_1
    refine r_aload_n (pc := 7) C 0 dX6_changes_7 rfl rfl ?_
    refine mg_s (pc := 8) C fl_RX6_7 dX6_changes_8 ?_
    refine r_bipush (pc := 11) C 8 dX6_changes_11 (by decide) ?_
    refine r_iconst (pc := 13) C 5 dX6_changes_13 (by decide) ?_
    refine r_iload_n (pc := 14) C 1 dX6_changes_14 rfl rfl ?_
    refine r_imul (pc := 15) C dX6_changes_15 ?_
    refine r_eqi (y := nI (5 * a)) (pk_mul 5 a) ?_
    refine r_iadd (pc := 16) C dX6_changes_16 ?_
    refine r_eqi (y := nI (8 + 5 * a)) (nI_add 8 (5 * a)) ?_
    refine r_iload_n (pc := 17) C 3 dX6_changes_17 rfl rfl ?_
    refine r_iadd (pc := 18) C dX6_changes_18 ?_
    refine r_eqi (y := nI (8 + 5 * a + k)) (nI_add (8 + 5 * a) k) ?_
    refine r_aload_n (pc := 19) C 0 dX6_changes_19 rfl rfl ?_
    refine r_bipush (pc := 20) C 8 dX6_changes_20 (by decide) ?_
    refine r_iconst (pc := 22) C 5 dX6_changes_22 (by decide) ?_
    refine r_iload_n (pc := 23) C 2 dX6_changes_23 rfl rfl ?_
    refine r_imul (pc := 24) C dX6_changes_24 ?_
    refine r_eqi (y := nI (5 * b)) (pk_mul 5 b) ?_
    refine r_iadd (pc := 25) C dX6_changes_25 ?_
    refine r_eqi (y := nI (8 + 5 * b)) (nI_add 8 (5 * b)) ?_
    refine r_iload_n (pc := 26) C 3 dX6_changes_26 rfl rfl ?_
    refine r_iadd (pc := 27) C dX6_changes_27 ?_
    refine r_eqi (y := nI (8 + 5 * b + k)) (nI_add (8 + 5 * b) k) ?_
    refine r_aload_n (pc := 28) C 0 dX6_changes_28 rfl rfl ?_
    refine r_iload_n (pc := 29) C 1 dX6_changes_29 rfl rfl ?_
    refine r_iload_n (pc := 30) C 3 dX6_changes_30 rfl rfl ?_
    refine rc_Vi (pc := 31) C (t_X6_its' l ad D cs h (su σ 0 (chgF (σ 0) a b k)) pre post (chgF (σ 0) a b k) (su_at) a k (by omega) (by omega)) mv_X6_its ml_RX6_156 rfl ⟨Nat.le_of_ble_eq_true rfl, Nat.le_of_ble_eq_true rfl⟩ ⟨rfl, rfl⟩ (q0 := 0) rfl rfl rfl rfl rfl rfl (Nat.le_of_ble_eq_true rfl) dX6_changes_31 ?_
    refine rc_Vi (pc := 34) C (t_X6_becomes' l ad D cs h (su σ 0 (chgF (σ 0) a b k)) pre post (chgF (σ 0) a b k) (su_at) (8 + 5 * b + k) (chgF (σ 0) a b k (8 + 5 * a + k)) (by omega)) mv_X6_becomes ml_RX6_150 rfl ⟨Nat.le_of_ble_eq_true rfl, Nat.le_of_ble_eq_true rfl⟩ ⟨rfl, rfl⟩ (q0 := 0) rfl rfl rfl rfl rfl rfl (Nat.le_of_ble_eq_true rfl) dX6_changes_34 ?_
    refine r_blk (blk' := wM cs h (su σ 0 (upd (chgF (σ 0) a b k) (8 + 5 * b + k) (chgF (σ 0) a b k (8 + 5 * a + k))))) (congrArg (wM cs h) (by rw [su_su (k := 0)])) ?_
    refine as_s (pc := 37) C (8 + 5 * a + k) (rfl) (by omega) dX6_changes_37 (upd (chgF (σ 0) a b k) (8 + 5 * b + k) (chgF (σ 0) a b k (8 + 5 * a + k))) (su_at) ?_
    refine r_blk (blk' := wM cs h (su σ 0 (upd (upd (chgF (σ 0) a b k) (8 + 5 * b + k) (chgF (σ 0) a b k (8 + 5 * a + k))) (8 + 5 * a + k) (chgF (σ 0) a b k (8 + 5 * b + k))))) (congrArg (wM cs h) (by rw [su_su])) ?_
    refine r_iinc (pc := 38) C (nI (k + 1)) 3 [(3, .int (nI (k + 1))), (0, .ref (h 0)), (1, .int (nI a)), (2, .int (nI b))] dX6_changes_38 rfl (nI_1 _) (by decide) rfl ?_
    refine r_goto (pc := 41) C 2 dX6_changes_41 (by decide) ?_
    refine r_pick (lv' := [(0, .ref (h 0)), (1, .int (nI a)), (2, .int (nI b)), (3, .int (nI (k + 1)))]) [1, 2, 3, 0] rfl ?_
    refine r_blk (blk' := wM cs h (su σ 0 (chgF (σ 0) a b (k + 1)))) (rfl) ?_
    exact ih (by omega) (trivial)
theorem t_X6_changes' (l : Launch) (ad : Nat → Nat) (D : va_G) (cs : Nat → ClassId) (h : Nat → Nat) (σ : Nat → Nat → Int32) (pre post : va_W) (f0_ : Nat → Int32) (e0_ : σ 0 = f0_) (n : Nat) (a b : Nat) (hN : f0_ 0 = nI n) (hn : n ≤ 8) (ha : a < n) (hb : b < n) : CTv l yX6_changes cX6_changes 4 ({ frames := 1, cells := 0, slots := 0, locals := 23 }) ad D (tysW cs) (pre ++ (wM cs h σ ++ post)) [.ref (h 0), .int (nI a), .int (nI b)] (pre ++ (wM cs h (su σ 0 (chgF f0_ a b 5)) ++ post)) := by
  subst e0_
  exact t_X6_changes l ad D cs h σ pre post n a b hN hn ha hb
theorem dX6_trade_0 : decode cX6_trade 0 = .ok (.aload_n 0, 1) := by decide +kernel
theorem dX6_trade_1 : decode cX6_trade 1 = .ok (.iload_n 1, 1) := by decide +kernel
theorem dX6_trade_2 : decode cX6_trade 2 = .ok (.iload_n 2, 1) := by decide +kernel
theorem dX6_trade_3 : decode cX6_trade 3 = .ok (.invokevirtual 174, 3) := by decide +kernel
theorem dX6_trade_6 : decode cX6_trade 6 = .ok (.ifCond .ne 5, 3) := by decide +kernel
theorem dX6_trade_9 : decode cX6_trade 9 = .ok (.iconst (-1), 1) := by decide +kernel
theorem dX6_trade_10 : decode cX6_trade 10 = .ok (.ireturn, 1) := by decide +kernel
theorem dX6_trade_11 : decode cX6_trade 11 = .ok (.aload_n 0, 1) := by decide +kernel
theorem dX6_trade_12 : decode cX6_trade 12 = .ok (.iload_n 1, 1) := by decide +kernel
theorem dX6_trade_13 : decode cX6_trade 13 = .ok (.iload_n 2, 1) := by decide +kernel
theorem dX6_trade_14 : decode cX6_trade 14 = .ok (.invokevirtual 183, 3) := by decide +kernel
theorem dX6_trade_17 : decode cX6_trade 17 = .ok (.iconst 1, 1) := by decide +kernel
theorem dX6_trade_18 : decode cX6_trade 18 = .ok (.ireturn, 1) := by decide +kernel
set_option maxHeartbeats 400000 in
set_option maxRecDepth 20000 in
theorem t_X6_trade (l : Launch) (ad : Nat → Nat) (D : va_G) (cs : Nat → ClassId) (h : Nat → Nat) (σ : Nat → Nat → Int32) (pre post : va_W) (n : Nat) (o q : Int32) (hN : σ 0 0 = nI n) (hn : n ≤ 8) : CTi l yX6_trade cX6_trade 3 .int ({ frames := 2, cells := 0, slots := 0, locals := 46 }) ad D (tysW cs) (pre ++ (wM cs h σ ++ post)) [.ref (h 0), .int o, .int q] (gateI (twoB n o q) 1 (-1)) (pre ++ (wM cs h (su σ 0 (gateF (twoB n o q) (chgF (σ 0) o.toNatClampNeg q.toNatClampNeg 5) (σ 0))) ++ post)) := by
  refine CTi.of (lv0 := [(0, .ref (h 0)), (1, .int o), (2, .int q)]) (by decide) rfl (Nat.le_of_ble_eq_true rfl) (fun p e s m args below meth c A C hr hlk => ?_)
  have C : Cx p s m args c cX6_trade 3 RX6 ad D (tysW cs) A := C
  refine r_aload_n (pc := 0) C 0 dX6_trade_0 rfl rfl ?_
  refine r_iload_n (pc := 1) C 1 dX6_trade_1 rfl rfl ?_
  refine r_iload_n (pc := 2) C 2 dX6_trade_2 rfl rfl ?_
  refine rc_Vi (pc := 3) C (t_X6_areTwo' l ad D cs h σ pre post (σ 0) (rfl) n o q hN hn) mv_X6_areTwo ml_RX6_174 rfl ⟨Nat.le_of_ble_eq_true rfl, Nat.le_of_ble_eq_true rfl⟩ ⟨rfl, rfl⟩ (q0 := 0) rfl rfl rfl rfl rfl rfl (Nat.le_of_ble_eq_true rfl) dX6_trade_3 ?_
  refine r_if_ne (pc := 6) C 11 dX6_trade_6 (by decide) (fun c_1 => ?_) (fun c_1 => ?_)
  · skip
    have c_1 := bI_n.mp c_1
    obtain ⟨a_2, b_2, d_2⟩ := two_of c_1
    obtain ⟨j, h_j, rfl⟩ := one_nat (by omega) a_2
    have e_j : (nI j).toNatClampNeg = j := nI_clamp (by omega)
    obtain ⟨i, h_i, rfl⟩ := one_nat (by omega) b_2
    have e_i : (nI i).toNatClampNeg = i := nI_clamp (by omega)
    refine r_aload_n (pc := 11) C 0 dX6_trade_11 rfl rfl ?_
    refine r_iload_n (pc := 12) C 1 dX6_trade_12 rfl rfl ?_
    refine r_iload_n (pc := 13) C 2 dX6_trade_13 rfl rfl ?_
    refine rc_Vv (pc := 14) C (t_X6_changes' l ad D cs h σ pre post (σ 0) (rfl) n j i hN hn h_j h_i) mv_X6_changes ml_RX6_183 rfl ⟨Nat.le_of_ble_eq_true rfl, Nat.le_of_ble_eq_true rfl⟩ ⟨rfl, rfl⟩ (q0 := 0) rfl rfl rfl rfl rfl rfl (Nat.le_of_ble_eq_true rfl) dX6_trade_14 ?_
    have f_3 : chgF (σ 0) j i 5 0 = nI n := chgF_0 hN 5
    refine r_iconst (pc := 17) C 1 dX6_trade_17 (by decide) ?_
    exact r_iret (pc := 18) C hr hlk dX6_trade_18 rfl (by first | rfl | (simp [gateI, gateF, *]; done) | simp_all [gateI, gateF]) (by rw [show (gateF (twoB n (nI j) (nI i)) (chgF (σ 0) (nI j).toNatClampNeg (nI i).toNatClampNeg 5) (σ 0) : Nat → Int32) = chgF (σ 0) j i 5 from (by first | rfl | (simp [gateI, gateF, *]; done) | simp_all [gateI, gateF])]; first | rfl | done)
  · skip
    have c_1 := bI_0.mp c_1
    refine r_iconst (pc := 9) C (-1) dX6_trade_9 (by decide) ?_
    exact r_iret (pc := 10) C hr hlk dX6_trade_10 rfl (by first | rfl | (simp [gateI, gateF, *]; done) | simp_all [gateI, gateF]) (by rw [show (gateF (twoB n o q) (chgF (σ 0) o.toNatClampNeg q.toNatClampNeg 5) (σ 0) : Nat → Int32) = σ 0 from (by first | rfl | (simp [gateI, gateF, *]; done) | simp_all [gateI, gateF])]; first | rfl | done)
theorem t_X6_trade' (l : Launch) (ad : Nat → Nat) (D : va_G) (cs : Nat → ClassId) (h : Nat → Nat) (σ : Nat → Nat → Int32) (pre post : va_W) (f0_ : Nat → Int32) (e0_ : σ 0 = f0_) (n : Nat) (o q : Int32) (hN : f0_ 0 = nI n) (hn : n ≤ 8) : CTi l yX6_trade cX6_trade 3 .int ({ frames := 2, cells := 0, slots := 0, locals := 46 }) ad D (tysW cs) (pre ++ (wM cs h σ ++ post)) [.ref (h 0), .int o, .int q] (gateI (twoB n o q) 1 (-1)) (pre ++ (wM cs h (su σ 0 (gateF (twoB n o q) (chgF f0_ o.toNatClampNeg q.toNatClampNeg 5) f0_)) ++ post)) := by
  subst e0_
  exact t_X6_trade l ad D cs h σ pre post n o q hN hn
theorem dX6_noneAt_0 : decode cX6_noneAt 0 = .ok (.aload_n 0, 1) := by decide +kernel
theorem dX6_noneAt_1 : decode cX6_noneAt 1 = .ok (.getfield 7, 3) := by decide +kernel
theorem dX6_noneAt_4 : decode cX6_noneAt 4 = .ok (.aload_n 0, 1) := by decide +kernel
theorem dX6_noneAt_5 : decode cX6_noneAt 5 = .ok (.getfield 16, 3) := by decide +kernel
theorem dX6_noneAt_8 : decode cX6_noneAt 8 = .ok (.invokestatic 134, 3) := by decide +kernel
theorem dX6_noneAt_11 : decode cX6_noneAt 11 = .ok (.iconst 0, 1) := by decide +kernel
theorem dX6_noneAt_12 : decode cX6_noneAt 12 = .ok (.istore_n 2, 1) := by decide +kernel
theorem dX6_noneAt_13 : decode cX6_noneAt 13 = .ok (.iload_n 2, 1) := by decide +kernel
theorem dX6_noneAt_14 : decode cX6_noneAt 14 = .ok (.bipush 60, 2) := by decide +kernel
theorem dX6_noneAt_16 : decode cX6_noneAt 16 = .ok (.if_icmp .gt 22, 3) := by decide +kernel
theorem dX6_noneAt_19 : decode cX6_noneAt 19 = .ok (.aload_n 0, 1) := by decide +kernel
theorem dX6_noneAt_20 : decode cX6_noneAt 20 = .ok (.getfield 7, 3) := by decide +kernel
theorem dX6_noneAt_23 : decode cX6_noneAt 23 = .ok (.iload_n 1, 1) := by decide +kernel
theorem dX6_noneAt_24 : decode cX6_noneAt 24 = .ok (.iaload, 1) := by decide +kernel
theorem dX6_noneAt_25 : decode cX6_noneAt 25 = .ok (.ifCond .le 13, 3) := by decide +kernel
theorem dX6_noneAt_28 : decode cX6_noneAt 28 = .ok (.aload_n 0, 1) := by decide +kernel
theorem dX6_noneAt_29 : decode cX6_noneAt 29 = .ok (.invokevirtual 196, 3) := by decide +kernel
theorem dX6_noneAt_32 : decode cX6_noneAt 32 = .ok (.iinc 2 1, 3) := by decide +kernel
theorem dX6_noneAt_35 : decode cX6_noneAt 35 = .ok (.goto (-22), 3) := by decide +kernel
theorem dX6_noneAt_38 : decode cX6_noneAt 38 = .ok (.aload_n 0, 1) := by decide +kernel
theorem dX6_noneAt_39 : decode cX6_noneAt 39 = .ok (.getfield 16, 3) := by decide +kernel
theorem dX6_noneAt_42 : decode cX6_noneAt 42 = .ok (.aload_n 0, 1) := by decide +kernel
theorem dX6_noneAt_43 : decode cX6_noneAt 43 = .ok (.getfield 7, 3) := by decide +kernel
theorem dX6_noneAt_46 : decode cX6_noneAt 46 = .ok (.invokestatic 134, 3) := by decide +kernel
theorem dX6_noneAt_49 : decode cX6_noneAt 49 = .ok (.iload_n 2, 1) := by decide +kernel
theorem dX6_noneAt_50 : decode cX6_noneAt 50 = .ok (.bipush 60, 2) := by decide +kernel
theorem dX6_noneAt_52 : decode cX6_noneAt 52 = .ok (.if_icmp .gt 7, 3) := by decide +kernel
theorem dX6_noneAt_55 : decode cX6_noneAt 55 = .ok (.iload_n 2, 1) := by decide +kernel
theorem dX6_noneAt_56 : decode cX6_noneAt 56 = .ok (.goto 5, 3) := by decide +kernel
theorem dX6_noneAt_59 : decode cX6_noneAt 59 = .ok (.bipush (-3), 2) := by decide +kernel
theorem dX6_noneAt_61 : decode cX6_noneAt 61 = .ok (.ireturn, 1) := by decide +kernel
set_option maxHeartbeats 400000 in
set_option maxRecDepth 20000 in
theorem t_X6_noneAt (l : Launch) (ad : Nat → Nat) (D : va_G) (cs : Nat → ClassId) (h : Nat → Nat) (σ : Nat → Nat → Int32) (pre post : va_W) (n : Nat) (a : Nat) (hN : σ 0 0 = nI n) (hn : n ≤ 8) (ha : a < 48) : CTi l yX6_noneAt cX6_noneAt 3 .int ({ frames := 6, cells := 0, slots := 0, locals := 135 }) ad D (tysW cs) (pre ++ (wM cs h σ ++ post)) [.ref (h 0), .int (nI a)] (fndP (fun t => decide (daysF n (σ 0) t a ≤ 0)) 0 61) (pre ++ (wM cs h (su σ 2 (σ 0)) ++ post)) := by
  refine CTi.of (lv0 := [(0, .ref (h 0)), (1, .int (nI a))]) (by decide) rfl (Nat.le_of_ble_eq_true rfl) (fun p e s m args below meth c A C hr hlk => ?_)
  have C : Cx p s m args c cX6_noneAt 3 RX6 ad D (tysW cs) A := C
  refine r_aload_n (pc := 0) C 0 dX6_noneAt_0 rfl rfl ?_
  refine mg_s (pc := 1) C fl_RX6_7 dX6_noneAt_1 ?_
  refine r_aload_n (pc := 4) C 0 dX6_noneAt_4 rfl rfl ?_
  refine mg_aside (pc := 5) C fl_RX6_16 dX6_noneAt_5 ?_
  refine rc_Sv (pc := 8) C (t_X6_copyRow_0_2' l ad D cs h σ pre post (σ 0) (rfl)  ) ms_X6_copyRow ml_RX6_134 rfl ⟨Nat.le_of_ble_eq_true rfl, Nat.le_of_ble_eq_true rfl⟩ ⟨rfl, rfl⟩ rfl rfl rfl (Nat.le_of_ble_eq_true rfl) dX6_noneAt_8 ?_
  refine r_iconst (pc := 11) C 0 dX6_noneAt_11 (by decide) ?_
  refine r_istore_n (pc := 12) C [(2, .int 0), (0, .ref (h 0)), (1, .int (nI a))] dX6_noneAt_12 rfl (by decide) rfl ?_
  refine r_pick (lv' := [(0, .ref (h 0)), (1, .int (nI a)), (2, .int 0)]) [1, 2, 0] rfl ?_
  refine r_blk (blk' := wM cs h (su (su σ 0 (daysF n (σ 0) 0)) 2 (σ 0))) (rfl) ?_
  refine r_loop (blkf := fun i => wM cs h (su (su σ 0 (daysF n (σ 0) i)) 2 (σ 0))) (lvf := fun i => [(0, .ref (h 0)), (1, .int (nI a)), (2, .int (nI i))]) (fun i => fndP (fun t => decide (daysF n (σ 0) t a ≤ 0)) 0 61 = fndP (fun t => decide (daysF n (σ 0) t a ≤ 0)) i (61 - i)) 61 0 (by omega) (rfl) (fun i h_i hx ih => ?_)
  show VX p l e _ s m args below meth c _ D A 3 pre (wM cs h (su (su σ 0 (daysF n (σ 0) i)) 2 (σ 0))) post 13 [(0, .ref (h 0)), (1, .int (nI a)), (2, .int (nI i))] []
  refine r_iload_n (pc := 13) C 2 dX6_noneAt_13 rfl rfl ?_
  refine r_bipush (pc := 14) C 60 dX6_noneAt_14 (by decide) ?_
  refine r_icmp_gt (pc := 16) C 38 dX6_noneAt_16 (by decide) (fun c_1 => ?_) (fun c_1 => ?_)
  · skip
    have c_1 := nIc_gt_t (a := i) (b := 60) (by omega) (by omega) c_1
    obtain rfl : i = 61 := by omega
    refine r_aload_n (pc := 38) C 0 dX6_noneAt_38 rfl rfl ?_
    refine mg_aside (pc := 39) C fl_RX6_16 dX6_noneAt_39 ?_
    refine r_aload_n (pc := 42) C 0 dX6_noneAt_42 rfl rfl ?_
    refine mg_s (pc := 43) C fl_RX6_7 dX6_noneAt_43 ?_
    refine rc_Sv (pc := 46) C (t_X6_copyRow_2_0' l ad D cs h (su (su σ 0 (daysF n (σ 0) 61)) 2 (σ 0)) pre post (σ 0) (su_at)  ) ms_X6_copyRow ml_RX6_134 rfl ⟨Nat.le_of_ble_eq_true rfl, Nat.le_of_ble_eq_true rfl⟩ ⟨rfl, rfl⟩ rfl rfl rfl (Nat.le_of_ble_eq_true rfl) dX6_noneAt_46 ?_
    refine r_blk (blk' := wM cs h (su σ 2 (σ 0))) (congrArg (wM cs h) (by rw [su_cm (k := 2) (j := 0) (by decide), su_su (k := 0), su_id (k := 0) (rfl)])) ?_
    refine r_iload_n (pc := 49) C 2 dX6_noneAt_49 rfl rfl ?_
    refine r_bipush (pc := 50) C 60 dX6_noneAt_50 (by decide) ?_
    refine r_icmp_gt (pc := 52) C 59 dX6_noneAt_52 (by decide) (fun c_2 => ?_) (fun c_2 => ?_)
    · skip
      revert c_2; intro c_2
      refine r_bipush (pc := 59) C (-3) dX6_noneAt_59 (by decide) ?_
      exact r_iret (pc := 61) C hr hlk dX6_noneAt_61 rfl (by rw [hx]; rfl) rfl
    · skip
      revert c_2; intro c_2
      exact absurd c_2 (by decide)
  · skip
    have c_1 := nIc_gt_f (a := i) (b := 60) (by omega) (by omega) c_1
    refine r_aload_n (pc := 19) C 0 dX6_noneAt_19 rfl rfl ?_
    refine mg_s (pc := 20) C fl_RX6_7 dX6_noneAt_20 ?_
    refine r_iload_n (pc := 23) C 1 dX6_noneAt_23 rfl rfl ?_
    refine al_s (pc := 24) C a (rfl) (by omega) dX6_noneAt_24 (daysF n (σ 0) i a) (congrFun ((su_nn (by decide)).trans su_at) _) ?_
    refine r_if_le (pc := 25) C 38 dX6_noneAt_25 (by decide) (fun c_3 => ?_) (fun c_3 => ?_)
    · skip
      refine r_aload_n (pc := 38) C 0 dX6_noneAt_38 rfl rfl ?_
      refine mg_aside (pc := 39) C fl_RX6_16 dX6_noneAt_39 ?_
      refine r_aload_n (pc := 42) C 0 dX6_noneAt_42 rfl rfl ?_
      refine mg_s (pc := 43) C fl_RX6_7 dX6_noneAt_43 ?_
      refine rc_Sv (pc := 46) C (t_X6_copyRow_2_0' l ad D cs h (su (su σ 0 (daysF n (σ 0) i)) 2 (σ 0)) pre post (σ 0) (su_at)  ) ms_X6_copyRow ml_RX6_134 rfl ⟨Nat.le_of_ble_eq_true rfl, Nat.le_of_ble_eq_true rfl⟩ ⟨rfl, rfl⟩ rfl rfl rfl (Nat.le_of_ble_eq_true rfl) dX6_noneAt_46 ?_
      refine r_blk (blk' := wM cs h (su σ 2 (σ 0))) (congrArg (wM cs h) (by rw [su_cm (k := 2) (j := 0) (by decide), su_su (k := 0), su_id (k := 0) (rfl)])) ?_
      refine r_iload_n (pc := 49) C 2 dX6_noneAt_49 rfl rfl ?_
      refine r_bipush (pc := 50) C 60 dX6_noneAt_50 (by decide) ?_
      refine r_icmp_gt (pc := 52) C 59 dX6_noneAt_52 (by decide) (fun c_4 => ?_) (fun c_4 => ?_)
      · skip
        have c_4 := nIc_gt_t (a := i) (b := 60) (by omega) (by omega) c_4
        exact absurd c_4 (by omega)
      · skip
        have c_4 := nIc_gt_f (a := i) (b := 60) (by omega) (by omega) c_4
        refine r_iload_n (pc := 55) C 2 dX6_noneAt_55 rfl rfl ?_
        refine r_goto (pc := 56) C 61 dX6_noneAt_56 (by decide) ?_
        exact r_iret (pc := 61) C hr hlk dX6_noneAt_61 rfl (by rw [hx]; exact (fnd_hit (by omega) (decide_eq_true ‹_›)).symm) rfl
    · skip
      refine r_aload_n (pc := 28) C 0 dX6_noneAt_28 rfl rfl ?_
      refine rc_Vv (pc := 29) C (t_X6_goesOn' l ad D cs h (su (su σ 0 (daysF n (σ 0) i)) 2 (σ 0)) pre post (daysF n (σ 0) i) ((su_nn (by decide)).trans su_at) n (daysF_0 hN) hn) mv_X6_goesOn ml_RX6_196 rfl ⟨Nat.le_of_ble_eq_true rfl, Nat.le_of_ble_eq_true rfl⟩ ⟨rfl, rfl⟩ (q0 := 0) rfl rfl rfl rfl rfl rfl (Nat.le_of_ble_eq_true rfl) dX6_noneAt_29 ?_
      refine r_blk (blk' := wM cs h (su (su σ 0 (dayF n (daysF n (σ 0) i))) 2 (σ 0))) (congrArg (wM cs h) (by rw [su_cm (k := 2) (j := 0) (by decide), su_su (k := 0)])) ?_
      have f_5 : dayF n (daysF n (σ 0) i) 0 = nI n := dayF_0 (daysF_0 hN)
      refine r_iinc (pc := 32) C (nI (i + 1)) 2 [(2, .int (nI (i + 1))), (0, .ref (h 0)), (1, .int (nI a))] dX6_noneAt_32 rfl (nI_1 _) (by decide) rfl ?_
      refine r_goto (pc := 35) C 13 dX6_noneAt_35 (by decide) ?_
      refine r_pick (lv' := [(0, .ref (h 0)), (1, .int (nI a)), (2, .int (nI (i + 1)))]) [1, 2, 0] rfl ?_
      refine r_blk (blk' := wM cs h (su (su σ 0 (daysF n (σ 0) (i + 1))) 2 (σ 0))) (rfl) ?_
      exact ih (by omega) (hx.trans (fnd_next (by omega) (decide_eq_false ‹_›)))
theorem t_X6_noneAt' (l : Launch) (ad : Nat → Nat) (D : va_G) (cs : Nat → ClassId) (h : Nat → Nat) (σ : Nat → Nat → Int32) (pre post : va_W) (f0_ : Nat → Int32) (e0_ : σ 0 = f0_) (n : Nat) (a : Nat) (hN : f0_ 0 = nI n) (hn : n ≤ 8) (ha : a < 48) : CTi l yX6_noneAt cX6_noneAt 3 .int ({ frames := 6, cells := 0, slots := 0, locals := 135 }) ad D (tysW cs) (pre ++ (wM cs h σ ++ post)) [.ref (h 0), .int (nI a)] (fndP (fun t => decide (daysF n f0_ t a ≤ 0)) 0 61) (pre ++ (wM cs h (su σ 2 f0_) ++ post)) := by
  subst e0_
  exact t_X6_noneAt l ad D cs h σ pre post n a hN hn ha
theorem dX6_all_0 : decode cX6_all 0 = .ok (.aload_n 0, 1) := by decide +kernel
theorem dX6_all_1 : decode cX6_all 1 = .ok (.getfield 7, 3) := by decide +kernel
theorem dX6_all_4 : decode cX6_all 4 = .ok (.aload_n 0, 1) := by decide +kernel
theorem dX6_all_5 : decode cX6_all 5 = .ok (.getfield 16, 3) := by decide +kernel
theorem dX6_all_8 : decode cX6_all 8 = .ok (.invokestatic 134, 3) := by decide +kernel
theorem dX6_all_11 : decode cX6_all 11 = .ok (.iconst 0, 1) := by decide +kernel
theorem dX6_all_12 : decode cX6_all 12 = .ok (.istore_n 1, 1) := by decide +kernel
theorem dX6_all_13 : decode cX6_all 13 = .ok (.iload_n 1, 1) := by decide +kernel
theorem dX6_all_14 : decode cX6_all 14 = .ok (.bipush 60, 2) := by decide +kernel
theorem dX6_all_16 : decode cX6_all 16 = .ok (.if_icmp .gt 21, 3) := by decide +kernel
theorem dX6_all_19 : decode cX6_all 19 = .ok (.aload_n 0, 1) := by decide +kernel
theorem dX6_all_20 : decode cX6_all 20 = .ok (.iconst 3, 1) := by decide +kernel
theorem dX6_all_21 : decode cX6_all 21 = .ok (.invokevirtual 204, 3) := by decide +kernel
theorem dX6_all_24 : decode cX6_all 24 = .ok (.ifCond .le 13, 3) := by decide +kernel
theorem dX6_all_27 : decode cX6_all 27 = .ok (.aload_n 0, 1) := by decide +kernel
theorem dX6_all_28 : decode cX6_all 28 = .ok (.invokevirtual 196, 3) := by decide +kernel
theorem dX6_all_31 : decode cX6_all 31 = .ok (.iinc 1 1, 3) := by decide +kernel
theorem dX6_all_34 : decode cX6_all 34 = .ok (.goto (-21), 3) := by decide +kernel
theorem dX6_all_37 : decode cX6_all 37 = .ok (.aload_n 0, 1) := by decide +kernel
theorem dX6_all_38 : decode cX6_all 38 = .ok (.getfield 16, 3) := by decide +kernel
theorem dX6_all_41 : decode cX6_all 41 = .ok (.aload_n 0, 1) := by decide +kernel
theorem dX6_all_42 : decode cX6_all 42 = .ok (.getfield 7, 3) := by decide +kernel
theorem dX6_all_45 : decode cX6_all 45 = .ok (.invokestatic 134, 3) := by decide +kernel
theorem dX6_all_48 : decode cX6_all 48 = .ok (.iload_n 1, 1) := by decide +kernel
theorem dX6_all_49 : decode cX6_all 49 = .ok (.bipush 60, 2) := by decide +kernel
theorem dX6_all_51 : decode cX6_all 51 = .ok (.if_icmp .gt 7, 3) := by decide +kernel
theorem dX6_all_54 : decode cX6_all 54 = .ok (.iload_n 1, 1) := by decide +kernel
theorem dX6_all_55 : decode cX6_all 55 = .ok (.goto 5, 3) := by decide +kernel
theorem dX6_all_58 : decode cX6_all 58 = .ok (.bipush (-3), 2) := by decide +kernel
theorem dX6_all_60 : decode cX6_all 60 = .ok (.ireturn, 1) := by decide +kernel
set_option maxHeartbeats 400000 in
set_option maxRecDepth 20000 in
theorem t_X6_all (l : Launch) (ad : Nat → Nat) (D : va_G) (cs : Nat → ClassId) (h : Nat → Nat) (σ : Nat → Nat → Int32) (pre post : va_W) (n : Nat) (hN : σ 0 0 = nI n) (hn : n ≤ 8) : CTi l yX6_all cX6_all 2 .int ({ frames := 6, cells := 0, slots := 0, locals := 135 }) ad D (tysW cs) (pre ++ (wM cs h σ ++ post)) [.ref (h 0)] (fndP (fun t => decide (sumF (daysF n (σ 0) t) 3 n ≤ 0)) 0 61) (pre ++ (wM cs h (su σ 2 (σ 0)) ++ post)) := by
  refine CTi.of (lv0 := [(0, .ref (h 0))]) (by decide) rfl (Nat.le_of_ble_eq_true rfl) (fun p e s m args below meth c A C hr hlk => ?_)
  have C : Cx p s m args c cX6_all 2 RX6 ad D (tysW cs) A := C
  refine r_aload_n (pc := 0) C 0 dX6_all_0 rfl rfl ?_
  refine mg_s (pc := 1) C fl_RX6_7 dX6_all_1 ?_
  refine r_aload_n (pc := 4) C 0 dX6_all_4 rfl rfl ?_
  refine mg_aside (pc := 5) C fl_RX6_16 dX6_all_5 ?_
  refine rc_Sv (pc := 8) C (t_X6_copyRow_0_2' l ad D cs h σ pre post (σ 0) (rfl)  ) ms_X6_copyRow ml_RX6_134 rfl ⟨Nat.le_of_ble_eq_true rfl, Nat.le_of_ble_eq_true rfl⟩ ⟨rfl, rfl⟩ rfl rfl rfl (Nat.le_of_ble_eq_true rfl) dX6_all_8 ?_
  refine r_iconst (pc := 11) C 0 dX6_all_11 (by decide) ?_
  refine r_istore_n (pc := 12) C [(1, .int 0), (0, .ref (h 0))] dX6_all_12 rfl (by decide) rfl ?_
  refine r_pick (lv' := [(0, .ref (h 0)), (1, .int 0)]) [1, 0] rfl ?_
  refine r_blk (blk' := wM cs h (su (su σ 0 (daysF n (σ 0) 0)) 2 (σ 0))) (rfl) ?_
  refine r_loop (blkf := fun i => wM cs h (su (su σ 0 (daysF n (σ 0) i)) 2 (σ 0))) (lvf := fun i => [(0, .ref (h 0)), (1, .int (nI i))]) (fun i => fndP (fun t => decide (sumF (daysF n (σ 0) t) 3 n ≤ 0)) 0 61 = fndP (fun t => decide (sumF (daysF n (σ 0) t) 3 n ≤ 0)) i (61 - i)) 61 0 (by omega) (rfl) (fun i h_i hx ih => ?_)
  show VX p l e _ s m args below meth c _ D A 2 pre (wM cs h (su (su σ 0 (daysF n (σ 0) i)) 2 (σ 0))) post 13 [(0, .ref (h 0)), (1, .int (nI i))] []
  refine r_iload_n (pc := 13) C 1 dX6_all_13 rfl rfl ?_
  refine r_bipush (pc := 14) C 60 dX6_all_14 (by decide) ?_
  refine r_icmp_gt (pc := 16) C 37 dX6_all_16 (by decide) (fun c_1 => ?_) (fun c_1 => ?_)
  · skip
    have c_1 := nIc_gt_t (a := i) (b := 60) (by omega) (by omega) c_1
    obtain rfl : i = 61 := by omega
    refine r_aload_n (pc := 37) C 0 dX6_all_37 rfl rfl ?_
    refine mg_aside (pc := 38) C fl_RX6_16 dX6_all_38 ?_
    refine r_aload_n (pc := 41) C 0 dX6_all_41 rfl rfl ?_
    refine mg_s (pc := 42) C fl_RX6_7 dX6_all_42 ?_
    refine rc_Sv (pc := 45) C (t_X6_copyRow_2_0' l ad D cs h (su (su σ 0 (daysF n (σ 0) 61)) 2 (σ 0)) pre post (σ 0) (su_at)  ) ms_X6_copyRow ml_RX6_134 rfl ⟨Nat.le_of_ble_eq_true rfl, Nat.le_of_ble_eq_true rfl⟩ ⟨rfl, rfl⟩ rfl rfl rfl (Nat.le_of_ble_eq_true rfl) dX6_all_45 ?_
    refine r_blk (blk' := wM cs h (su σ 2 (σ 0))) (congrArg (wM cs h) (by rw [su_cm (k := 2) (j := 0) (by decide), su_su (k := 0), su_id (k := 0) (rfl)])) ?_
    refine r_iload_n (pc := 48) C 1 dX6_all_48 rfl rfl ?_
    refine r_bipush (pc := 49) C 60 dX6_all_49 (by decide) ?_
    refine r_icmp_gt (pc := 51) C 58 dX6_all_51 (by decide) (fun c_2 => ?_) (fun c_2 => ?_)
    · skip
      revert c_2; intro c_2
      refine r_bipush (pc := 58) C (-3) dX6_all_58 (by decide) ?_
      exact r_iret (pc := 60) C hr hlk dX6_all_60 rfl (by rw [hx]; rfl) rfl
    · skip
      revert c_2; intro c_2
      exact absurd c_2 (by decide)
  · skip
    have c_1 := nIc_gt_f (a := i) (b := 60) (by omega) (by omega) c_1
    refine r_aload_n (pc := 19) C 0 dX6_all_19 rfl rfl ?_
    refine r_iconst (pc := 20) C 3 dX6_all_20 (by decide) ?_
    refine rc_Vi (pc := 21) C (t_X6_sumOf' l ad D cs h (su (su σ 0 (daysF n (σ 0) i)) 2 (σ 0)) pre post (daysF n (σ 0) i) ((su_nn (by decide)).trans su_at) n 3 (daysF_0 hN) hn (by omega)) mv_X6_sumOf ml_RX6_204 rfl ⟨Nat.le_of_ble_eq_true rfl, Nat.le_of_ble_eq_true rfl⟩ ⟨rfl, rfl⟩ (q0 := 0) rfl rfl rfl rfl rfl rfl (Nat.le_of_ble_eq_true rfl) dX6_all_21 ?_
    refine r_if_le (pc := 24) C 37 dX6_all_24 (by decide) (fun c_3 => ?_) (fun c_3 => ?_)
    · skip
      refine r_aload_n (pc := 37) C 0 dX6_all_37 rfl rfl ?_
      refine mg_aside (pc := 38) C fl_RX6_16 dX6_all_38 ?_
      refine r_aload_n (pc := 41) C 0 dX6_all_41 rfl rfl ?_
      refine mg_s (pc := 42) C fl_RX6_7 dX6_all_42 ?_
      refine rc_Sv (pc := 45) C (t_X6_copyRow_2_0' l ad D cs h (su (su σ 0 (daysF n (σ 0) i)) 2 (σ 0)) pre post (σ 0) (su_at)  ) ms_X6_copyRow ml_RX6_134 rfl ⟨Nat.le_of_ble_eq_true rfl, Nat.le_of_ble_eq_true rfl⟩ ⟨rfl, rfl⟩ rfl rfl rfl (Nat.le_of_ble_eq_true rfl) dX6_all_45 ?_
      refine r_blk (blk' := wM cs h (su σ 2 (σ 0))) (congrArg (wM cs h) (by rw [su_cm (k := 2) (j := 0) (by decide), su_su (k := 0), su_id (k := 0) (rfl)])) ?_
      refine r_iload_n (pc := 48) C 1 dX6_all_48 rfl rfl ?_
      refine r_bipush (pc := 49) C 60 dX6_all_49 (by decide) ?_
      refine r_icmp_gt (pc := 51) C 58 dX6_all_51 (by decide) (fun c_4 => ?_) (fun c_4 => ?_)
      · skip
        have c_4 := nIc_gt_t (a := i) (b := 60) (by omega) (by omega) c_4
        exact absurd c_4 (by omega)
      · skip
        have c_4 := nIc_gt_f (a := i) (b := 60) (by omega) (by omega) c_4
        refine r_iload_n (pc := 54) C 1 dX6_all_54 rfl rfl ?_
        refine r_goto (pc := 55) C 60 dX6_all_55 (by decide) ?_
        exact r_iret (pc := 60) C hr hlk dX6_all_60 rfl (by rw [hx]; exact (fnd_hit (by omega) (decide_eq_true ‹_›)).symm) rfl
    · skip
      refine r_aload_n (pc := 27) C 0 dX6_all_27 rfl rfl ?_
      refine rc_Vv (pc := 28) C (t_X6_goesOn' l ad D cs h (su (su σ 0 (daysF n (σ 0) i)) 2 (σ 0)) pre post (daysF n (σ 0) i) ((su_nn (by decide)).trans su_at) n (daysF_0 hN) hn) mv_X6_goesOn ml_RX6_196 rfl ⟨Nat.le_of_ble_eq_true rfl, Nat.le_of_ble_eq_true rfl⟩ ⟨rfl, rfl⟩ (q0 := 0) rfl rfl rfl rfl rfl rfl (Nat.le_of_ble_eq_true rfl) dX6_all_28 ?_
      refine r_blk (blk' := wM cs h (su (su σ 0 (dayF n (daysF n (σ 0) i))) 2 (σ 0))) (congrArg (wM cs h) (by rw [su_cm (k := 2) (j := 0) (by decide), su_su (k := 0)])) ?_
      have f_5 : dayF n (daysF n (σ 0) i) 0 = nI n := dayF_0 (daysF_0 hN)
      refine r_iinc (pc := 31) C (nI (i + 1)) 1 [(1, .int (nI (i + 1))), (0, .ref (h 0))] dX6_all_31 rfl (nI_1 _) (by decide) rfl ?_
      refine r_goto (pc := 34) C 13 dX6_all_34 (by decide) ?_
      refine r_pick (lv' := [(0, .ref (h 0)), (1, .int (nI (i + 1)))]) [1, 0] rfl ?_
      refine r_blk (blk' := wM cs h (su (su σ 0 (daysF n (σ 0) (i + 1))) 2 (σ 0))) (rfl) ?_
      exact ih (by omega) (hx.trans (fnd_next (by omega) (decide_eq_false ‹_›)))
theorem t_X6_all' (l : Launch) (ad : Nat → Nat) (D : va_G) (cs : Nat → ClassId) (h : Nat → Nat) (σ : Nat → Nat → Int32) (pre post : va_W) (f0_ : Nat → Int32) (e0_ : σ 0 = f0_) (n : Nat) (hN : f0_ 0 = nI n) (hn : n ≤ 8) : CTi l yX6_all cX6_all 2 .int ({ frames := 6, cells := 0, slots := 0, locals := 135 }) ad D (tysW cs) (pre ++ (wM cs h σ ++ post)) [.ref (h 0)] (fndP (fun t => decide (sumF (daysF n f0_ t) 3 n ≤ 0)) 0 61) (pre ++ (wM cs h (su σ 2 f0_) ++ post)) := by
  subst e0_
  exact t_X6_all l ad D cs h σ pre post n hN hn
theorem dX6_steps_0 : decode cX6_steps 0 = .ok (.aload_n 0, 1) := by decide +kernel
theorem dX6_steps_1 : decode cX6_steps 1 = .ok (.iload_n 1, 1) := by decide +kernel
theorem dX6_steps_2 : decode cX6_steps 2 = .ok (.invokevirtual 168, 3) := by decide +kernel
theorem dX6_steps_5 : decode cX6_steps 5 = .ok (.ifCond .eq 18, 3) := by decide +kernel
theorem dX6_steps_8 : decode cX6_steps 8 = .ok (.aload_n 0, 1) := by decide +kernel
theorem dX6_steps_9 : decode cX6_steps 9 = .ok (.bipush 8, 2) := by decide +kernel
theorem dX6_steps_11 : decode cX6_steps 11 = .ok (.iconst 5, 1) := by decide +kernel
theorem dX6_steps_12 : decode cX6_steps 12 = .ok (.iload_n 1, 1) := by decide +kernel
theorem dX6_steps_13 : decode cX6_steps 13 = .ok (.imul, 1) := by decide +kernel
theorem dX6_steps_14 : decode cX6_steps 14 = .ok (.iadd, 1) := by decide +kernel
theorem dX6_steps_15 : decode cX6_steps 15 = .ok (.iconst 3, 1) := by decide +kernel
theorem dX6_steps_16 : decode cX6_steps 16 = .ok (.iadd, 1) := by decide +kernel
theorem dX6_steps_17 : decode cX6_steps 17 = .ok (.invokevirtual 231, 3) := by decide +kernel
theorem dX6_steps_20 : decode cX6_steps 20 = .ok (.goto 4, 3) := by decide +kernel
theorem dX6_steps_23 : decode cX6_steps 23 = .ok (.iconst (-1), 1) := by decide +kernel
theorem dX6_steps_24 : decode cX6_steps 24 = .ok (.ireturn, 1) := by decide +kernel
set_option maxHeartbeats 400000 in
set_option maxRecDepth 20000 in
theorem t_X6_steps (l : Launch) (ad : Nat → Nat) (D : va_G) (cs : Nat → ClassId) (h : Nat → Nat) (σ : Nat → Nat → Int32) (pre post : va_W) (n : Nat) (o : Int32) (hN : σ 0 0 = nI n) (hn : n ≤ 8) : CTi l yX6_steps cX6_steps 2 .int ({ frames := 7, cells := 0, slots := 0, locals := 157 }) ad D (tysW cs) (pre ++ (wM cs h σ ++ post)) [.ref (h 0), .int o] (gateI (oneB n o) (fndP (fun t => decide (daysF n (σ 0) t (8 + 5 * o.toNatClampNeg + 3) ≤ 0)) 0 61) (-1)) (pre ++ (wM cs h (su σ 2 (gateF (oneB n o) (σ 0) (σ 2))) ++ post)) := by
  refine CTi.of (lv0 := [(0, .ref (h 0)), (1, .int o)]) (by decide) rfl (Nat.le_of_ble_eq_true rfl) (fun p e s m args below meth c A C hr hlk => ?_)
  have C : Cx p s m args c cX6_steps 2 RX6 ad D (tysW cs) A := C
  refine r_aload_n (pc := 0) C 0 dX6_steps_0 rfl rfl ?_
  refine r_iload_n (pc := 1) C 1 dX6_steps_1 rfl rfl ?_
  refine rc_Vi (pc := 2) C (t_X6_isOne' l ad D cs h σ pre post (σ 0) (rfl) n o hN hn) mv_X6_isOne ml_RX6_168 rfl ⟨Nat.le_of_ble_eq_true rfl, Nat.le_of_ble_eq_true rfl⟩ ⟨rfl, rfl⟩ (q0 := 0) rfl rfl rfl rfl rfl rfl (Nat.le_of_ble_eq_true rfl) dX6_steps_2 ?_
  refine r_if_eq (pc := 5) C 23 dX6_steps_5 (by decide) (fun c_1 => ?_) (fun c_1 => ?_)
  · skip
    have c_1 := bI_0.mp c_1
    refine r_iconst (pc := 23) C (-1) dX6_steps_23 (by decide) ?_
    exact r_iret (pc := 24) C hr hlk dX6_steps_24 rfl (by first | rfl | (simp [gateI, gateF, *]; done) | simp_all [gateI, gateF]) (by rw [show (gateF (oneB n o) (σ 0) (σ 2) : Nat → Int32) = σ 2 from (by first | rfl | (simp [gateI, gateF, *]; done) | simp_all [gateI, gateF])]; first | rfl | done)
  · skip
    have c_1 := bI_n.mp c_1
    obtain ⟨j, h_j, rfl⟩ := one_nat (by omega) c_1
    have e_j : (nI j).toNatClampNeg = j := nI_clamp (by omega)
    refine r_aload_n (pc := 8) C 0 dX6_steps_8 rfl rfl ?_
    refine r_bipush (pc := 9) C 8 dX6_steps_9 (by decide) ?_
    refine r_iconst (pc := 11) C 5 dX6_steps_11 (by decide) ?_
    refine r_iload_n (pc := 12) C 1 dX6_steps_12 rfl rfl ?_
    refine r_imul (pc := 13) C dX6_steps_13 ?_
    refine r_eqi (y := nI (5 * j)) (pk_mul 5 j) ?_
    refine r_iadd (pc := 14) C dX6_steps_14 ?_
    refine r_eqi (y := nI (8 + 5 * j)) (nI_add 8 (5 * j)) ?_
    refine r_iconst (pc := 15) C 3 dX6_steps_15 (by decide) ?_
    refine r_iadd (pc := 16) C dX6_steps_16 ?_
    refine r_eqi (y := nI (8 + 5 * j + 3)) (nI_add (8 + 5 * j) 3) ?_
    refine rc_Vi (pc := 17) C (t_X6_noneAt' l ad D cs h σ pre post (σ 0) (rfl) n (8 + 5 * j + 3) hN hn (by omega)) mv_X6_noneAt ml_RX6_231 rfl ⟨Nat.le_of_ble_eq_true rfl, Nat.le_of_ble_eq_true rfl⟩ ⟨rfl, rfl⟩ (q0 := 0) rfl rfl rfl rfl rfl rfl (Nat.le_of_ble_eq_true rfl) dX6_steps_17 ?_
    refine r_goto (pc := 20) C 24 dX6_steps_20 (by decide) ?_
    exact r_iret (pc := 24) C hr hlk dX6_steps_24 rfl (by first | rfl | (simp [gateI, gateF, *]; done) | simp_all [gateI, gateF]) (by rw [show (gateF (oneB n (nI j)) (σ 0) (σ 2) : Nat → Int32) = σ 0 from (by first | rfl | (simp [gateI, gateF, *]; done) | simp_all [gateI, gateF])]; first | rfl | done)
theorem t_X6_steps' (l : Launch) (ad : Nat → Nat) (D : va_G) (cs : Nat → ClassId) (h : Nat → Nat) (σ : Nat → Nat → Int32) (pre post : va_W) (f0_ : Nat → Int32) (e0_ : σ 0 = f0_) (f2_ : Nat → Int32) (e2_ : σ 2 = f2_) (n : Nat) (o : Int32) (hN : f0_ 0 = nI n) (hn : n ≤ 8) : CTi l yX6_steps cX6_steps 2 .int ({ frames := 7, cells := 0, slots := 0, locals := 157 }) ad D (tysW cs) (pre ++ (wM cs h σ ++ post)) [.ref (h 0), .int o] (gateI (oneB n o) (fndP (fun t => decide (daysF n f0_ t (8 + 5 * o.toNatClampNeg + 3) ≤ 0)) 0 61) (-1)) (pre ++ (wM cs h (su σ 2 (gateF (oneB n o) f0_ (f2_))) ++ post)) := by
  subst e0_; subst e2_
  exact t_X6_steps l ad D cs h σ pre post n o hN hn
theorem dX6_poor_0 : decode cX6_poor 0 = .ok (.aload_n 0, 1) := by decide +kernel
theorem dX6_poor_1 : decode cX6_poor 1 = .ok (.iload_n 1, 1) := by decide +kernel
theorem dX6_poor_2 : decode cX6_poor 2 = .ok (.invokevirtual 168, 3) := by decide +kernel
theorem dX6_poor_5 : decode cX6_poor 5 = .ok (.ifCond .eq 18, 3) := by decide +kernel
theorem dX6_poor_8 : decode cX6_poor 8 = .ok (.aload_n 0, 1) := by decide +kernel
theorem dX6_poor_9 : decode cX6_poor 9 = .ok (.bipush 8, 2) := by decide +kernel
theorem dX6_poor_11 : decode cX6_poor 11 = .ok (.iconst 5, 1) := by decide +kernel
theorem dX6_poor_12 : decode cX6_poor 12 = .ok (.iload_n 1, 1) := by decide +kernel
theorem dX6_poor_13 : decode cX6_poor 13 = .ok (.imul, 1) := by decide +kernel
theorem dX6_poor_14 : decode cX6_poor 14 = .ok (.iadd, 1) := by decide +kernel
theorem dX6_poor_15 : decode cX6_poor 15 = .ok (.iconst 4, 1) := by decide +kernel
theorem dX6_poor_16 : decode cX6_poor 16 = .ok (.iadd, 1) := by decide +kernel
theorem dX6_poor_17 : decode cX6_poor 17 = .ok (.invokevirtual 231, 3) := by decide +kernel
theorem dX6_poor_20 : decode cX6_poor 20 = .ok (.goto 4, 3) := by decide +kernel
theorem dX6_poor_23 : decode cX6_poor 23 = .ok (.iconst (-1), 1) := by decide +kernel
theorem dX6_poor_24 : decode cX6_poor 24 = .ok (.ireturn, 1) := by decide +kernel
set_option maxHeartbeats 400000 in
set_option maxRecDepth 20000 in
theorem t_X6_poor (l : Launch) (ad : Nat → Nat) (D : va_G) (cs : Nat → ClassId) (h : Nat → Nat) (σ : Nat → Nat → Int32) (pre post : va_W) (n : Nat) (o : Int32) (hN : σ 0 0 = nI n) (hn : n ≤ 8) : CTi l yX6_poor cX6_poor 2 .int ({ frames := 7, cells := 0, slots := 0, locals := 157 }) ad D (tysW cs) (pre ++ (wM cs h σ ++ post)) [.ref (h 0), .int o] (gateI (oneB n o) (fndP (fun t => decide (daysF n (σ 0) t (8 + 5 * o.toNatClampNeg + 4) ≤ 0)) 0 61) (-1)) (pre ++ (wM cs h (su σ 2 (gateF (oneB n o) (σ 0) (σ 2))) ++ post)) := by
  refine CTi.of (lv0 := [(0, .ref (h 0)), (1, .int o)]) (by decide) rfl (Nat.le_of_ble_eq_true rfl) (fun p e s m args below meth c A C hr hlk => ?_)
  have C : Cx p s m args c cX6_poor 2 RX6 ad D (tysW cs) A := C
  refine r_aload_n (pc := 0) C 0 dX6_poor_0 rfl rfl ?_
  refine r_iload_n (pc := 1) C 1 dX6_poor_1 rfl rfl ?_
  refine rc_Vi (pc := 2) C (t_X6_isOne' l ad D cs h σ pre post (σ 0) (rfl) n o hN hn) mv_X6_isOne ml_RX6_168 rfl ⟨Nat.le_of_ble_eq_true rfl, Nat.le_of_ble_eq_true rfl⟩ ⟨rfl, rfl⟩ (q0 := 0) rfl rfl rfl rfl rfl rfl (Nat.le_of_ble_eq_true rfl) dX6_poor_2 ?_
  refine r_if_eq (pc := 5) C 23 dX6_poor_5 (by decide) (fun c_1 => ?_) (fun c_1 => ?_)
  · skip
    have c_1 := bI_0.mp c_1
    refine r_iconst (pc := 23) C (-1) dX6_poor_23 (by decide) ?_
    exact r_iret (pc := 24) C hr hlk dX6_poor_24 rfl (by first | rfl | (simp [gateI, gateF, *]; done) | simp_all [gateI, gateF]) (by rw [show (gateF (oneB n o) (σ 0) (σ 2) : Nat → Int32) = σ 2 from (by first | rfl | (simp [gateI, gateF, *]; done) | simp_all [gateI, gateF])]; first | rfl | done)
  · skip
    have c_1 := bI_n.mp c_1
    obtain ⟨j, h_j, rfl⟩ := one_nat (by omega) c_1
    have e_j : (nI j).toNatClampNeg = j := nI_clamp (by omega)
    refine r_aload_n (pc := 8) C 0 dX6_poor_8 rfl rfl ?_
    refine r_bipush (pc := 9) C 8 dX6_poor_9 (by decide) ?_
    refine r_iconst (pc := 11) C 5 dX6_poor_11 (by decide) ?_
    refine r_iload_n (pc := 12) C 1 dX6_poor_12 rfl rfl ?_
    refine r_imul (pc := 13) C dX6_poor_13 ?_
    refine r_eqi (y := nI (5 * j)) (pk_mul 5 j) ?_
    refine r_iadd (pc := 14) C dX6_poor_14 ?_
    refine r_eqi (y := nI (8 + 5 * j)) (nI_add 8 (5 * j)) ?_
    refine r_iconst (pc := 15) C 4 dX6_poor_15 (by decide) ?_
    refine r_iadd (pc := 16) C dX6_poor_16 ?_
    refine r_eqi (y := nI (8 + 5 * j + 4)) (nI_add (8 + 5 * j) 4) ?_
    refine rc_Vi (pc := 17) C (t_X6_noneAt' l ad D cs h σ pre post (σ 0) (rfl) n (8 + 5 * j + 4) hN hn (by omega)) mv_X6_noneAt ml_RX6_231 rfl ⟨Nat.le_of_ble_eq_true rfl, Nat.le_of_ble_eq_true rfl⟩ ⟨rfl, rfl⟩ (q0 := 0) rfl rfl rfl rfl rfl rfl (Nat.le_of_ble_eq_true rfl) dX6_poor_17 ?_
    refine r_goto (pc := 20) C 24 dX6_poor_20 (by decide) ?_
    exact r_iret (pc := 24) C hr hlk dX6_poor_24 rfl (by first | rfl | (simp [gateI, gateF, *]; done) | simp_all [gateI, gateF]) (by rw [show (gateF (oneB n (nI j)) (σ 0) (σ 2) : Nat → Int32) = σ 0 from (by first | rfl | (simp [gateI, gateF, *]; done) | simp_all [gateI, gateF])]; first | rfl | done)
theorem t_X6_poor' (l : Launch) (ad : Nat → Nat) (D : va_G) (cs : Nat → ClassId) (h : Nat → Nat) (σ : Nat → Nat → Int32) (pre post : va_W) (f0_ : Nat → Int32) (e0_ : σ 0 = f0_) (f2_ : Nat → Int32) (e2_ : σ 2 = f2_) (n : Nat) (o : Int32) (hN : f0_ 0 = nI n) (hn : n ≤ 8) : CTi l yX6_poor cX6_poor 2 .int ({ frames := 7, cells := 0, slots := 0, locals := 157 }) ad D (tysW cs) (pre ++ (wM cs h σ ++ post)) [.ref (h 0), .int o] (gateI (oneB n o) (fndP (fun t => decide (daysF n f0_ t (8 + 5 * o.toNatClampNeg + 4) ≤ 0)) 0 61) (-1)) (pre ++ (wM cs h (su σ 2 (gateF (oneB n o) f0_ (f2_))) ++ post)) := by
  subst e0_; subst e2_
  exact t_X6_poor l ad D cs h σ pre post n o hN hn
theorem dX6_richestBy_0 : decode cX6_richestBy 0 = .ok (.bipush 8, 2) := by decide +kernel
theorem dX6_richestBy_2 : decode cX6_richestBy 2 = .ok (.iconst 5, 1) := by decide +kernel
theorem dX6_richestBy_3 : decode cX6_richestBy 3 = .ok (.iload_n 1, 1) := by decide +kernel
theorem dX6_richestBy_4 : decode cX6_richestBy 4 = .ok (.imul, 1) := by decide +kernel
theorem dX6_richestBy_5 : decode cX6_richestBy 5 = .ok (.iadd, 1) := by decide +kernel
theorem dX6_richestBy_6 : decode cX6_richestBy 6 = .ok (.iload_n 2, 1) := by decide +kernel
theorem dX6_richestBy_7 : decode cX6_richestBy 7 = .ok (.iadd, 1) := by decide +kernel
theorem dX6_richestBy_8 : decode cX6_richestBy 8 = .ok (.istore 5, 2) := by decide +kernel
theorem dX6_richestBy_10 : decode cX6_richestBy 10 = .ok (.aload_n 0, 1) := by decide +kernel
theorem dX6_richestBy_11 : decode cX6_richestBy 11 = .ok (.getfield 7, 3) := by decide +kernel
theorem dX6_richestBy_14 : decode cX6_richestBy 14 = .ok (.iload 5, 2) := by decide +kernel
theorem dX6_richestBy_16 : decode cX6_richestBy 16 = .ok (.iaload, 1) := by decide +kernel
theorem dX6_richestBy_17 : decode cX6_richestBy 17 = .ok (.istore 6, 2) := by decide +kernel
theorem dX6_richestBy_19 : decode cX6_richestBy 19 = .ok (.iconst 0, 1) := by decide +kernel
theorem dX6_richestBy_20 : decode cX6_richestBy 20 = .ok (.istore 7, 2) := by decide +kernel
theorem dX6_richestBy_22 : decode cX6_richestBy 22 = .ok (.iconst (-1), 1) := by decide +kernel
theorem dX6_richestBy_23 : decode cX6_richestBy 23 = .ok (.istore 8, 2) := by decide +kernel
theorem dX6_richestBy_25 : decode cX6_richestBy 25 = .ok (.iconst 0, 1) := by decide +kernel
theorem dX6_richestBy_26 : decode cX6_richestBy 26 = .ok (.istore 9, 2) := by decide +kernel
theorem dX6_richestBy_28 : decode cX6_richestBy 28 = .ok (.iload 9, 2) := by decide +kernel
theorem dX6_richestBy_30 : decode cX6_richestBy 30 = .ok (.iload_n 3, 1) := by decide +kernel
theorem dX6_richestBy_31 : decode cX6_richestBy 31 = .ok (.if_icmp .gt 52, 3) := by decide +kernel
theorem dX6_richestBy_34 : decode cX6_richestBy 34 = .ok (.aload_n 0, 1) := by decide +kernel
theorem dX6_richestBy_35 : decode cX6_richestBy 35 = .ok (.getfield 7, 3) := by decide +kernel
theorem dX6_richestBy_38 : decode cX6_richestBy 38 = .ok (.iload 5, 2) := by decide +kernel
theorem dX6_richestBy_40 : decode cX6_richestBy 40 = .ok (.iload 9, 2) := by decide +kernel
theorem dX6_richestBy_42 : decode cX6_richestBy 42 = .ok (.iastore, 1) := by decide +kernel
theorem dX6_richestBy_43 : decode cX6_richestBy 43 = .ok (.aload_n 0, 1) := by decide +kernel
theorem dX6_richestBy_44 : decode cX6_richestBy 44 = .ok (.iload_n 1, 1) := by decide +kernel
theorem dX6_richestBy_45 : decode cX6_richestBy 45 = .ok (.iload 4, 2) := by decide +kernel
theorem dX6_richestBy_47 : decode cX6_richestBy 47 = .ok (.invokevirtual 228, 3) := by decide +kernel
theorem dX6_richestBy_50 : decode cX6_richestBy 50 = .ok (.istore 10, 2) := by decide +kernel
theorem dX6_richestBy_52 : decode cX6_richestBy 52 = .ok (.iload 10, 2) := by decide +kernel
theorem dX6_richestBy_54 : decode cX6_richestBy 54 = .ok (.iload 8, 2) := by decide +kernel
theorem dX6_richestBy_56 : decode cX6_richestBy 56 = .ok (.if_icmp .le 8, 3) := by decide +kernel
theorem dX6_richestBy_59 : decode cX6_richestBy 59 = .ok (.iload 9, 2) := by decide +kernel
theorem dX6_richestBy_61 : decode cX6_richestBy 61 = .ok (.goto 5, 3) := by decide +kernel
theorem dX6_richestBy_64 : decode cX6_richestBy 64 = .ok (.iload 7, 2) := by decide +kernel
theorem dX6_richestBy_66 : decode cX6_richestBy 66 = .ok (.istore 7, 2) := by decide +kernel
theorem dX6_richestBy_68 : decode cX6_richestBy 68 = .ok (.iload 8, 2) := by decide +kernel
theorem dX6_richestBy_70 : decode cX6_richestBy 70 = .ok (.iload 10, 2) := by decide +kernel
theorem dX6_richestBy_72 : decode cX6_richestBy 72 = .ok (.invokestatic 186, 3) := by decide +kernel
theorem dX6_richestBy_75 : decode cX6_richestBy 75 = .ok (.istore 8, 2) := by decide +kernel
theorem dX6_richestBy_77 : decode cX6_richestBy 77 = .ok (.iinc 9 1, 3) := by decide +kernel
theorem dX6_richestBy_80 : decode cX6_richestBy 80 = .ok (.goto (-52), 3) := by decide +kernel
theorem dX6_richestBy_83 : decode cX6_richestBy 83 = .ok (.aload_n 0, 1) := by decide +kernel
theorem dX6_richestBy_84 : decode cX6_richestBy 84 = .ok (.getfield 7, 3) := by decide +kernel
theorem dX6_richestBy_87 : decode cX6_richestBy 87 = .ok (.iload 5, 2) := by decide +kernel
theorem dX6_richestBy_89 : decode cX6_richestBy 89 = .ok (.iload 6, 2) := by decide +kernel
theorem dX6_richestBy_91 : decode cX6_richestBy 91 = .ok (.iastore, 1) := by decide +kernel
theorem dX6_richestBy_92 : decode cX6_richestBy 92 = .ok (.iload 7, 2) := by decide +kernel
theorem dX6_richestBy_94 : decode cX6_richestBy 94 = .ok (.ireturn, 1) := by decide +kernel
set_option maxHeartbeats 400000 in
set_option maxRecDepth 20000 in
theorem t_X6_richestBy (l : Launch) (ad : Nat → Nat) (D : va_G) (cs : Nat → ClassId) (h : Nat → Nat) (σ : Nat → Nat → Int32) (pre post : va_W) (n : Nat) (o w z k : Nat) (hN : σ 0 0 = nI n) (hn : n ≤ 8) (ho : o < n) (hw : w < 5) (hz : z ≤ 99) (hk : k ≤ 60) : CTi l yX6_richestBy cX6_richestBy 11 .int ({ frames := 8, cells := 0, slots := 0, locals := 180 }) ad D (tysW cs) (pre ++ (wM cs h σ ++ post)) [.ref (h 0), .int (nI o), .int (nI w), .int (nI z), .int (nI k)] (rbB n (σ 0) (8 + 5 * o + w) k o (z + 1)) (pre ++ (wM cs h (su σ 2 (rbA (σ 0) (σ 2) (8 + 5 * o + w) (z + 1))) ++ post)) := by
  refine CTi.of (lv0 := [(0, .ref (h 0)), (1, .int (nI o)), (2, .int (nI w)), (3, .int (nI z)), (4, .int (nI k))]) (by decide) rfl (Nat.le_of_ble_eq_true rfl) (fun p e s m args below meth c A C hr hlk => ?_)
  have C : Cx p s m args c cX6_richestBy 11 RX6 ad D (tysW cs) A := C
  refine r_bipush (pc := 0) C 8 dX6_richestBy_0 (by decide) ?_
  refine r_iconst (pc := 2) C 5 dX6_richestBy_2 (by decide) ?_
  refine r_iload_n (pc := 3) C 1 dX6_richestBy_3 rfl rfl ?_
  refine r_imul (pc := 4) C dX6_richestBy_4 ?_
  refine r_eqi (y := nI (5 * o)) (pk_mul 5 o) ?_
  refine r_iadd (pc := 5) C dX6_richestBy_5 ?_
  refine r_eqi (y := nI (8 + 5 * o)) (nI_add 8 (5 * o)) ?_
  refine r_iload_n (pc := 6) C 2 dX6_richestBy_6 rfl rfl ?_
  refine r_iadd (pc := 7) C dX6_richestBy_7 ?_
  refine r_eqi (y := nI (8 + 5 * o + w)) (nI_add (8 + 5 * o) w) ?_
  refine r_istore (pc := 8) C [(5, .int (nI (8 + 5 * o + w))), (0, .ref (h 0)), (1, .int (nI o)), (2, .int (nI w)), (3, .int (nI z)), (4, .int (nI k))] dX6_richestBy_8 (by decide) rfl ?_
  refine r_aload_n (pc := 10) C 1 dX6_richestBy_10 rfl rfl ?_
  refine mg_s (pc := 11) C fl_RX6_7 dX6_richestBy_11 ?_
  refine r_iload (pc := 14) C 0 dX6_richestBy_14 rfl ?_
  refine al_s (pc := 16) C (8 + 5 * o + w) (rfl) (by omega) dX6_richestBy_16 (σ 0 (8 + 5 * o + w)) rfl ?_
  refine r_istore (pc := 17) C [(6, .int (σ 0 (8 + 5 * o + w))), (5, .int (nI (8 + 5 * o + w))), (0, .ref (h 0)), (1, .int (nI o)), (2, .int (nI w)), (3, .int (nI z)), (4, .int (nI k))] dX6_richestBy_17 (by decide) rfl ?_
  refine r_iconst (pc := 19) C 0 dX6_richestBy_19 (by decide) ?_
  refine r_istore (pc := 20) C [(7, .int 0), (6, .int (σ 0 (8 + 5 * o + w))), (5, .int (nI (8 + 5 * o + w))), (0, .ref (h 0)), (1, .int (nI o)), (2, .int (nI w)), (3, .int (nI z)), (4, .int (nI k))] dX6_richestBy_20 (by decide) rfl ?_
  refine r_iconst (pc := 22) C (-1) dX6_richestBy_22 (by decide) ?_
  refine r_istore (pc := 23) C [(8, .int (-1)), (7, .int 0), (6, .int (σ 0 (8 + 5 * o + w))), (5, .int (nI (8 + 5 * o + w))), (0, .ref (h 0)), (1, .int (nI o)), (2, .int (nI w)), (3, .int (nI z)), (4, .int (nI k))] dX6_richestBy_23 (by decide) rfl ?_
  refine r_iconst (pc := 25) C 0 dX6_richestBy_25 (by decide) ?_
  refine r_istore (pc := 26) C [(9, .int 0), (8, .int (-1)), (7, .int 0), (6, .int (σ 0 (8 + 5 * o + w))), (5, .int (nI (8 + 5 * o + w))), (0, .ref (h 0)), (1, .int (nI o)), (2, .int (nI w)), (3, .int (nI z)), (4, .int (nI k))] dX6_richestBy_26 (by decide) rfl ?_
  refine r_pick (lv' := [(0, .ref (h 0)), (1, .int (nI o)), (2, .int (nI w)), (3, .int (nI z)), (4, .int (nI k)), (5, .int (nI (8 + 5 * o + w))), (6, .int (σ 0 (8 + 5 * o + w))), (7, .int 0), (8, .int (-1)), (9, .int 0)]) [5, 6, 7, 8, 9, 4, 3, 2, 1, 0] rfl ?_
  refine r_lv (lv' := [(0, .ref (h 0)), (1, .int (nI o)), (2, .int (nI w)), (3, .int (nI z)), (4, .int (nI k)), (5, .int (nI (8 + 5 * o + w))), (6, .int (σ 0 (8 + 5 * o + w))), (7, .int (rbB n (σ 0) (8 + 5 * o + w) k o 0)), (8, .int (rbM n (σ 0) (8 + 5 * o + w) k o 0)), (9, .int 0)]) (rfl) ?_
  refine r_blk (blk' := wM cs h (su (su σ 0 (rbS (σ 0) (8 + 5 * o + w) 0)) 2 (rbA (σ 0) (σ 2) (8 + 5 * o + w) 0))) (rfl) ?_
  refine r_loop (blkf := fun i => wM cs h (su (su σ 0 (rbS (σ 0) (8 + 5 * o + w) i)) 2 (rbA (σ 0) (σ 2) (8 + 5 * o + w) i))) (lvf := fun i => [(0, .ref (h 0)), (1, .int (nI o)), (2, .int (nI w)), (3, .int (nI z)), (4, .int (nI k)), (5, .int (nI (8 + 5 * o + w))), (6, .int (σ 0 (8 + 5 * o + w))), (7, .int (rbB n (σ 0) (8 + 5 * o + w) k o i)), (8, .int (rbM n (σ 0) (8 + 5 * o + w) k o i)), (9, .int (nI i))]) (fun i => True) (z + 1) 0 (by omega) (trivial) (fun i h_i _ ih => ?_)
  show VX p l e _ s m args below meth c _ D A 11 pre (wM cs h (su (su σ 0 (rbS (σ 0) (8 + 5 * o + w) i)) 2 (rbA (σ 0) (σ 2) (8 + 5 * o + w) i))) post 28 [(0, .ref (h 0)), (1, .int (nI o)), (2, .int (nI w)), (3, .int (nI z)), (4, .int (nI k)), (5, .int (nI (8 + 5 * o + w))), (6, .int (σ 0 (8 + 5 * o + w))), (7, .int (rbB n (σ 0) (8 + 5 * o + w) k o i)), (8, .int (rbM n (σ 0) (8 + 5 * o + w) k o i)), (9, .int (nI i))] []
  refine r_iload (pc := 28) C 9 dX6_richestBy_28 rfl ?_
  refine r_iload_n (pc := 30) C 3 dX6_richestBy_30 rfl rfl ?_
  refine r_icmp_gt (pc := 31) C 83 dX6_richestBy_31 (by decide) (fun c_1 => ?_) (fun c_1 => ?_)
  · skip
    have c_1 := nIc_gt_t (a := i) (b := z) (by omega) (by omega) c_1
    obtain rfl : i = z + 1 := by omega
    refine r_aload_n (pc := 83) C 0 dX6_richestBy_83 rfl rfl ?_
    refine mg_s (pc := 84) C fl_RX6_7 dX6_richestBy_84 ?_
    refine r_iload (pc := 87) C 5 dX6_richestBy_87 rfl ?_
    refine r_iload (pc := 89) C 6 dX6_richestBy_89 rfl ?_
    refine as_s (pc := 91) C (8 + 5 * o + w) (rfl) (by omega) dX6_richestBy_91 (rbS (σ 0) (8 + 5 * o + w) (z + 1)) ((su_nn (by decide)).trans su_at) ?_
    refine r_blk (blk' := wM cs h (su (su σ 0 (upd (rbS (σ 0) (8 + 5 * o + w) (z + 1)) (8 + 5 * o + w) (σ 0 (8 + 5 * o + w)))) 2 (rbA (σ 0) (σ 2) (8 + 5 * o + w) (z + 1)))) (congrArg (wM cs h) (by rw [su_cm (k := 2) (j := 0) (by decide), su_su])) ?_
    refine r_blk (blk' := wM cs h (su (su σ 0 (σ 0)) 2 (rbA (σ 0) (σ 2) (8 + 5 * o + w) (z + 1)))) (by rw [show (upd (rbS (σ 0) (8 + 5 * o + w) (z + 1)) (8 + 5 * o + w) (σ 0 (8 + 5 * o + w)) : Nat → Int32) = σ 0 from (rbS_id z)] <;> rfl) ?_
    refine r_blk (blk' := wM cs h (su σ 2 (rbA (σ 0) (σ 2) (8 + 5 * o + w) (z + 1)))) (congrArg (wM cs h) (by rw [su_id (k := 0) (f := σ 0) (rfl)])) ?_
    refine r_iload (pc := 92) C 7 dX6_richestBy_92 rfl ?_
    exact r_iret (pc := 94) C hr hlk dX6_richestBy_94 rfl rfl rfl
  · skip
    have c_1 := nIc_gt_f (a := i) (b := z) (by omega) (by omega) c_1
    refine r_aload_n (pc := 34) C 0 dX6_richestBy_34 rfl rfl ?_
    refine mg_s (pc := 35) C fl_RX6_7 dX6_richestBy_35 ?_
    refine r_iload (pc := 38) C 5 dX6_richestBy_38 rfl ?_
    refine r_iload (pc := 40) C 9 dX6_richestBy_40 rfl ?_
    refine as_s (pc := 42) C (8 + 5 * o + w) (rfl) (by omega) dX6_richestBy_42 (rbS (σ 0) (8 + 5 * o + w) i) ((su_nn (by decide)).trans su_at) ?_
    refine r_blk (blk' := wM cs h (su (su σ 0 (upd (rbS (σ 0) (8 + 5 * o + w) i) (8 + 5 * o + w) (nI i))) 2 (rbA (σ 0) (σ 2) (8 + 5 * o + w) i))) (congrArg (wM cs h) (by rw [su_cm (k := 2) (j := 0) (by decide), su_su])) ?_
    refine r_blk (blk' := wM cs h (su (su σ 0 (upd (σ 0) (8 + 5 * o + w) (nI i))) 2 (rbA (σ 0) (σ 2) (8 + 5 * o + w) i))) (by rw [show (upd (σ 0) (8 + 5 * o + w) (nI i) : Nat → Int32) = upd (rbS (σ 0) (8 + 5 * o + w) i) (8 + 5 * o + w) (nI i) from Eq.symm (rbS_upd i)] <;> rfl) ?_
    refine r_aload_n (pc := 43) C 0 dX6_richestBy_43 rfl rfl ?_
    refine r_iload_n (pc := 44) C 1 dX6_richestBy_44 rfl rfl ?_
    refine r_iload (pc := 45) C 4 dX6_richestBy_45 rfl ?_
    refine rc_Vi (pc := 47) C (t_X6_purseBehind' l ad D cs h (su (su σ 0 (upd (σ 0) (8 + 5 * o + w) (nI i))) 2 (rbA (σ 0) (σ 2) (8 + 5 * o + w) i)) pre post (upd (σ 0) (8 + 5 * o + w) (nI i)) ((su_nn (by decide)).trans su_at) n o k (upd_0 (by omega) hN) hn ho hk) mv_X6_purseBehind ml_RX6_228 rfl ⟨Nat.le_of_ble_eq_true rfl, Nat.le_of_ble_eq_true rfl⟩ ⟨rfl, rfl⟩ (q0 := 0) rfl rfl rfl rfl rfl rfl (Nat.le_of_ble_eq_true rfl) dX6_richestBy_47 ?_
    refine r_blk (blk' := wM cs h (su (su σ 0 (upd (σ 0) (8 + 5 * o + w) (nI i))) 2 (upd (σ 0) (8 + 5 * o + w) (nI i)))) (congrArg (wM cs h) (by rw [su_su (k := 2)])) ?_
    refine r_istore (pc := 50) C [(10, .int (purF n (upd (σ 0) (8 + 5 * o + w) (nI i)) o k)), (0, .ref (h 0)), (1, .int (nI o)), (2, .int (nI w)), (3, .int (nI z)), (4, .int (nI k)), (5, .int (nI (8 + 5 * o + w))), (6, .int (σ 0 (8 + 5 * o + w))), (7, .int (rbB n (σ 0) (8 + 5 * o + w) k o i)), (8, .int (rbM n (σ 0) (8 + 5 * o + w) k o i)), (9, .int (nI i))] dX6_richestBy_50 (by decide) rfl ?_
    refine r_iload (pc := 52) C 0 dX6_richestBy_52 rfl ?_
    refine r_iload (pc := 54) C 9 dX6_richestBy_54 rfl ?_
    refine r_icmp_le (pc := 56) C 64 dX6_richestBy_56 (by decide) (fun c_2 => ?_) (fun c_2 => ?_)
    · skip
      refine r_iload (pc := 64) C 8 dX6_richestBy_64 rfl ?_
      refine r_istore (pc := 66) C [(7, .int (rbB n (σ 0) (8 + 5 * o + w) k o i)), (10, .int (purF n (upd (σ 0) (8 + 5 * o + w) (nI i)) o k)), (0, .ref (h 0)), (1, .int (nI o)), (2, .int (nI w)), (3, .int (nI z)), (4, .int (nI k)), (5, .int (nI (8 + 5 * o + w))), (6, .int (σ 0 (8 + 5 * o + w))), (8, .int (rbM n (σ 0) (8 + 5 * o + w) k o i)), (9, .int (nI i))] dX6_richestBy_66 (by decide) rfl ?_
      refine r_iload (pc := 68) C 9 dX6_richestBy_68 rfl ?_
      refine r_iload (pc := 70) C 1 dX6_richestBy_70 rfl ?_
      refine rc_Si (pc := 72) C (t_X6_greatest l ad D (tysW cs) (wM cs h (su (su σ 0 (upd (σ 0) (8 + 5 * o + w) (nI i))) 2 (upd (σ 0) (8 + 5 * o + w) (nI i)))) pre post  (rbM n (σ 0) (8 + 5 * o + w) k o i) (purF n (upd (σ 0) (8 + 5 * o + w) (nI i)) o k) ) ms_X6_greatest ml_RX6_186 rfl ⟨Nat.le_of_ble_eq_true rfl, Nat.le_of_ble_eq_true rfl⟩ ⟨rfl, rfl⟩ rfl rfl rfl (Nat.le_of_ble_eq_true rfl) dX6_richestBy_72 ?_
      refine r_istore (pc := 75) C [(8, .int (mxI (rbM n (σ 0) (8 + 5 * o + w) k o i) (purF n (upd (σ 0) (8 + 5 * o + w) (nI i)) o k))), (7, .int (rbB n (σ 0) (8 + 5 * o + w) k o i)), (10, .int (purF n (upd (σ 0) (8 + 5 * o + w) (nI i)) o k)), (0, .ref (h 0)), (1, .int (nI o)), (2, .int (nI w)), (3, .int (nI z)), (4, .int (nI k)), (5, .int (nI (8 + 5 * o + w))), (6, .int (σ 0 (8 + 5 * o + w))), (9, .int (nI i))] dX6_richestBy_75 (by decide) rfl ?_
      refine r_iinc (pc := 77) C (nI (i + 1)) 10 [(9, .int (nI (i + 1))), (8, .int (mxI (rbM n (σ 0) (8 + 5 * o + w) k o i) (purF n (upd (σ 0) (8 + 5 * o + w) (nI i)) o k))), (7, .int (rbB n (σ 0) (8 + 5 * o + w) k o i)), (10, .int (purF n (upd (σ 0) (8 + 5 * o + w) (nI i)) o k)), (0, .ref (h 0)), (1, .int (nI o)), (2, .int (nI w)), (3, .int (nI z)), (4, .int (nI k)), (5, .int (nI (8 + 5 * o + w))), (6, .int (σ 0 (8 + 5 * o + w)))] dX6_richestBy_77 rfl (nI_1 _) (by decide) rfl ?_
      refine r_goto (pc := 80) C 28 dX6_richestBy_80 (by decide) ?_
      refine r_pick (lv' := [(0, .ref (h 0)), (1, .int (nI o)), (2, .int (nI w)), (3, .int (nI z)), (4, .int (nI k)), (5, .int (nI (8 + 5 * o + w))), (6, .int (σ 0 (8 + 5 * o + w))), (7, .int (rbB n (σ 0) (8 + 5 * o + w) k o i)), (8, .int (mxI (rbM n (σ 0) (8 + 5 * o + w) k o i) (purF n (upd (σ 0) (8 + 5 * o + w) (nI i)) o k))), (9, .int (nI (i + 1)))]) [4, 5, 6, 7, 8, 9, 10, 2, 1, 0] rfl ?_
      refine r_lv (lv' := [(0, .ref (h 0)), (1, .int (nI o)), (2, .int (nI w)), (3, .int (nI z)), (4, .int (nI k)), (5, .int (nI (8 + 5 * o + w))), (6, .int (σ 0 (8 + 5 * o + w))), (7, .int (rbB n (σ 0) (8 + 5 * o + w) k o (i + 1))), (8, .int (rbM n (σ 0) (8 + 5 * o + w) k o (i + 1))), (9, .int (nI (i + 1)))]) (lvc rfl (lvc rfl (lvc rfl (lvc rfl (lvc rfl (lvc rfl (lvc rfl (lvc (congrArg Value.int (show (rbB n (σ 0) (8 + 5 * o + w) k o i : Int32) = rbB n (σ 0) (8 + 5 * o + w) k o (i + 1) from (if_pos ‹_›).symm)) (lvc rfl (lvc rfl rfl)))))))))) ?_
      refine r_blk (blk' := wM cs h (su (su σ 0 (rbS (σ 0) (8 + 5 * o + w) (i + 1))) 2 (rbA (σ 0) (σ 2) (8 + 5 * o + w) (i + 1)))) (rfl) ?_
      exact ih (by omega) (trivial)
    · skip
      refine r_iload (pc := 59) C 10 dX6_richestBy_59 rfl ?_
      refine r_goto (pc := 61) C 66 dX6_richestBy_61 (by decide) ?_
      refine r_istore (pc := 66) C [(7, .int (nI i)), (10, .int (purF n (upd (σ 0) (8 + 5 * o + w) (nI i)) o k)), (0, .ref (h 0)), (1, .int (nI o)), (2, .int (nI w)), (3, .int (nI z)), (4, .int (nI k)), (5, .int (nI (8 + 5 * o + w))), (6, .int (σ 0 (8 + 5 * o + w))), (8, .int (rbM n (σ 0) (8 + 5 * o + w) k o i)), (9, .int (nI i))] dX6_richestBy_66 (by decide) rfl ?_
      refine r_iload (pc := 68) C 9 dX6_richestBy_68 rfl ?_
      refine r_iload (pc := 70) C 1 dX6_richestBy_70 rfl ?_
      refine rc_Si (pc := 72) C (t_X6_greatest l ad D (tysW cs) (wM cs h (su (su σ 0 (upd (σ 0) (8 + 5 * o + w) (nI i))) 2 (upd (σ 0) (8 + 5 * o + w) (nI i)))) pre post  (rbM n (σ 0) (8 + 5 * o + w) k o i) (purF n (upd (σ 0) (8 + 5 * o + w) (nI i)) o k) ) ms_X6_greatest ml_RX6_186 rfl ⟨Nat.le_of_ble_eq_true rfl, Nat.le_of_ble_eq_true rfl⟩ ⟨rfl, rfl⟩ rfl rfl rfl (Nat.le_of_ble_eq_true rfl) dX6_richestBy_72 ?_
      refine r_istore (pc := 75) C [(8, .int (mxI (rbM n (σ 0) (8 + 5 * o + w) k o i) (purF n (upd (σ 0) (8 + 5 * o + w) (nI i)) o k))), (7, .int (nI i)), (10, .int (purF n (upd (σ 0) (8 + 5 * o + w) (nI i)) o k)), (0, .ref (h 0)), (1, .int (nI o)), (2, .int (nI w)), (3, .int (nI z)), (4, .int (nI k)), (5, .int (nI (8 + 5 * o + w))), (6, .int (σ 0 (8 + 5 * o + w))), (9, .int (nI i))] dX6_richestBy_75 (by decide) rfl ?_
      refine r_iinc (pc := 77) C (nI (i + 1)) 10 [(9, .int (nI (i + 1))), (8, .int (mxI (rbM n (σ 0) (8 + 5 * o + w) k o i) (purF n (upd (σ 0) (8 + 5 * o + w) (nI i)) o k))), (7, .int (nI i)), (10, .int (purF n (upd (σ 0) (8 + 5 * o + w) (nI i)) o k)), (0, .ref (h 0)), (1, .int (nI o)), (2, .int (nI w)), (3, .int (nI z)), (4, .int (nI k)), (5, .int (nI (8 + 5 * o + w))), (6, .int (σ 0 (8 + 5 * o + w)))] dX6_richestBy_77 rfl (nI_1 _) (by decide) rfl ?_
      refine r_goto (pc := 80) C 28 dX6_richestBy_80 (by decide) ?_
      refine r_pick (lv' := [(0, .ref (h 0)), (1, .int (nI o)), (2, .int (nI w)), (3, .int (nI z)), (4, .int (nI k)), (5, .int (nI (8 + 5 * o + w))), (6, .int (σ 0 (8 + 5 * o + w))), (7, .int (nI i)), (8, .int (mxI (rbM n (σ 0) (8 + 5 * o + w) k o i) (purF n (upd (σ 0) (8 + 5 * o + w) (nI i)) o k))), (9, .int (nI (i + 1)))]) [4, 5, 6, 7, 8, 9, 10, 2, 1, 0] rfl ?_
      refine r_lv (lv' := [(0, .ref (h 0)), (1, .int (nI o)), (2, .int (nI w)), (3, .int (nI z)), (4, .int (nI k)), (5, .int (nI (8 + 5 * o + w))), (6, .int (σ 0 (8 + 5 * o + w))), (7, .int (rbB n (σ 0) (8 + 5 * o + w) k o (i + 1))), (8, .int (rbM n (σ 0) (8 + 5 * o + w) k o (i + 1))), (9, .int (nI (i + 1)))]) (lvc rfl (lvc rfl (lvc rfl (lvc rfl (lvc rfl (lvc rfl (lvc rfl (lvc (congrArg Value.int (show (nI i : Int32) = rbB n (σ 0) (8 + 5 * o + w) k o (i + 1) from (if_neg ‹_›).symm)) (lvc rfl (lvc rfl rfl)))))))))) ?_
      refine r_blk (blk' := wM cs h (su (su σ 0 (rbS (σ 0) (8 + 5 * o + w) (i + 1))) 2 (rbA (σ 0) (σ 2) (8 + 5 * o + w) (i + 1)))) (rfl) ?_
      exact ih (by omega) (trivial)
theorem t_X6_richestBy' (l : Launch) (ad : Nat → Nat) (D : va_G) (cs : Nat → ClassId) (h : Nat → Nat) (σ : Nat → Nat → Int32) (pre post : va_W) (f0_ : Nat → Int32) (e0_ : σ 0 = f0_) (f2_ : Nat → Int32) (e2_ : σ 2 = f2_) (n : Nat) (o w z k : Nat) (hN : f0_ 0 = nI n) (hn : n ≤ 8) (ho : o < n) (hw : w < 5) (hz : z ≤ 99) (hk : k ≤ 60) : CTi l yX6_richestBy cX6_richestBy 11 .int ({ frames := 8, cells := 0, slots := 0, locals := 180 }) ad D (tysW cs) (pre ++ (wM cs h σ ++ post)) [.ref (h 0), .int (nI o), .int (nI w), .int (nI z), .int (nI k)] (rbB n f0_ (8 + 5 * o + w) k o (z + 1)) (pre ++ (wM cs h (su σ 2 (rbA f0_ (f2_) (8 + 5 * o + w) (z + 1))) ++ post)) := by
  subst e0_; subst e2_
  exact t_X6_richestBy l ad D cs h σ pre post n o w z k hN hn ho hw hz hk
theorem dX6_webFor_0 : decode cX6_webFor 0 = .ok (.aload_n 0, 1) := by decide +kernel
theorem dX6_webFor_1 : decode cX6_webFor 1 = .ok (.iload_n 1, 1) := by decide +kernel
theorem dX6_webFor_2 : decode cX6_webFor 2 = .ok (.invokevirtual 168, 3) := by decide +kernel
theorem dX6_webFor_5 : decode cX6_webFor 5 = .ok (.ifCond .eq 22, 3) := by decide +kernel
theorem dX6_webFor_8 : decode cX6_webFor 8 = .ok (.iload_n 2, 1) := by decide +kernel
theorem dX6_webFor_9 : decode cX6_webFor 9 = .ok (.invokestatic 236, 3) := by decide +kernel
theorem dX6_webFor_12 : decode cX6_webFor 12 = .ok (.ifCond .eq 15, 3) := by decide +kernel
theorem dX6_webFor_15 : decode cX6_webFor 15 = .ok (.aload_n 0, 1) := by decide +kernel
theorem dX6_webFor_16 : decode cX6_webFor 16 = .ok (.iload_n 1, 1) := by decide +kernel
theorem dX6_webFor_17 : decode cX6_webFor 17 = .ok (.iconst 3, 1) := by decide +kernel
theorem dX6_webFor_18 : decode cX6_webFor 18 = .ok (.bipush 99, 2) := by decide +kernel
theorem dX6_webFor_20 : decode cX6_webFor 20 = .ok (.iload_n 2, 1) := by decide +kernel
theorem dX6_webFor_21 : decode cX6_webFor 21 = .ok (.invokevirtual 239, 3) := by decide +kernel
theorem dX6_webFor_24 : decode cX6_webFor 24 = .ok (.goto 4, 3) := by decide +kernel
theorem dX6_webFor_27 : decode cX6_webFor 27 = .ok (.iconst (-1), 1) := by decide +kernel
theorem dX6_webFor_28 : decode cX6_webFor 28 = .ok (.ireturn, 1) := by decide +kernel
set_option maxHeartbeats 400000 in
set_option maxRecDepth 20000 in
theorem t_X6_webFor (l : Launch) (ad : Nat → Nat) (D : va_G) (cs : Nat → ClassId) (h : Nat → Nat) (σ : Nat → Nat → Int32) (pre post : va_W) (n : Nat) (o k : Int32) (hN : σ 0 0 = nI n) (hn : n ≤ 8) : CTi l yX6_webFor cX6_webFor 3 .int ({ frames := 9, cells := 0, slots := 0, locals := 210 }) ad D (tysW cs) (pre ++ (wM cs h σ ++ post)) [.ref (h 0), .int o, .int k] (gateI (oneB n o && inB k 1 20) (rbB n (σ 0) (8 + 5 * o.toNatClampNeg + 3) k.toNatClampNeg o.toNatClampNeg (99 + 1)) (-1)) (pre ++ (wM cs h (su σ 2 (gateF (oneB n o && inB k 1 20) (rbA (σ 0) (σ 2) (8 + 5 * o.toNatClampNeg + 3) (99 + 1)) (σ 2))) ++ post)) := by
  refine CTi.of (lv0 := [(0, .ref (h 0)), (1, .int o), (2, .int k)]) (by decide) rfl (Nat.le_of_ble_eq_true rfl) (fun p e s m args below meth c A C hr hlk => ?_)
  have C : Cx p s m args c cX6_webFor 3 RX6 ad D (tysW cs) A := C
  refine r_aload_n (pc := 0) C 0 dX6_webFor_0 rfl rfl ?_
  refine r_iload_n (pc := 1) C 1 dX6_webFor_1 rfl rfl ?_
  refine rc_Vi (pc := 2) C (t_X6_isOne' l ad D cs h σ pre post (σ 0) (rfl) n o hN hn) mv_X6_isOne ml_RX6_168 rfl ⟨Nat.le_of_ble_eq_true rfl, Nat.le_of_ble_eq_true rfl⟩ ⟨rfl, rfl⟩ (q0 := 0) rfl rfl rfl rfl rfl rfl (Nat.le_of_ble_eq_true rfl) dX6_webFor_2 ?_
  refine r_if_eq (pc := 5) C 27 dX6_webFor_5 (by decide) (fun c_1 => ?_) (fun c_1 => ?_)
  · skip
    have c_1 := bI_0.mp c_1
    refine r_iconst (pc := 27) C (-1) dX6_webFor_27 (by decide) ?_
    exact r_iret (pc := 28) C hr hlk dX6_webFor_28 rfl (by first | rfl | (simp [gateI, gateF, *]; done) | simp_all [gateI, gateF]) (by rw [show (gateF (oneB n o && inB k 1 20) (rbA (σ 0) (σ 2) (8 + 5 * o.toNatClampNeg + 3) (99 + 1)) (σ 2) : Nat → Int32) = σ 2 from (by first | rfl | (simp [gateI, gateF, *]; done) | simp_all [gateI, gateF])]; first | rfl | done)
  · skip
    have c_1 := bI_n.mp c_1
    obtain ⟨j, h_j, rfl⟩ := one_nat (by omega) c_1
    have e_j : (nI j).toNatClampNeg = j := nI_clamp (by omega)
    refine r_iload_n (pc := 8) C 2 dX6_webFor_8 rfl rfl ?_
    refine rc_Si (pc := 9) C (t_X6_isShort l ad D (tysW cs) (wM cs h σ) pre post  k ) ms_X6_isShort ml_RX6_236 rfl ⟨Nat.le_of_ble_eq_true rfl, Nat.le_of_ble_eq_true rfl⟩ ⟨rfl, rfl⟩ rfl rfl rfl (Nat.le_of_ble_eq_true rfl) dX6_webFor_9 ?_
    refine r_if_eq (pc := 12) C 27 dX6_webFor_12 (by decide) (fun c_2 => ?_) (fun c_2 => ?_)
    · skip
      have c_2 := bI_0.mp c_2
      refine r_iconst (pc := 27) C (-1) dX6_webFor_27 (by decide) ?_
      exact r_iret (pc := 28) C hr hlk dX6_webFor_28 rfl (by first | rfl | (simp [gateI, gateF, *]; done) | simp_all [gateI, gateF]) (by rw [show (gateF (oneB n (nI j) && inB k 1 20) (rbA (σ 0) (σ 2) (8 + 5 * (nI j).toNatClampNeg + 3) (99 + 1)) (σ 2) : Nat → Int32) = σ 2 from (by first | rfl | (simp [gateI, gateF, *]; done) | simp_all [gateI, gateF])]; first | rfl | done)
    · skip
      have c_2 := bI_n.mp c_2
      obtain ⟨t, l_t, h_t, rfl⟩ := rng_nat 1 20 (by decide) (by decide) c_2
      have e_t : (nI t).toNatClampNeg = t := nI_clamp (by omega)
      refine r_aload_n (pc := 15) C 0 dX6_webFor_15 rfl rfl ?_
      refine r_iload_n (pc := 16) C 1 dX6_webFor_16 rfl rfl ?_
      refine r_iconst (pc := 17) C 3 dX6_webFor_17 (by decide) ?_
      refine r_bipush (pc := 18) C 99 dX6_webFor_18 (by decide) ?_
      refine r_iload_n (pc := 20) C 2 dX6_webFor_20 rfl rfl ?_
      refine rc_Vi (pc := 21) C (t_X6_richestBy' l ad D cs h σ pre post (σ 0) (rfl) (σ 2) (rfl) n j 3 99 t hN hn h_j (by omega) (by omega) (by omega)) mv_X6_richestBy ml_RX6_239 rfl ⟨Nat.le_of_ble_eq_true rfl, Nat.le_of_ble_eq_true rfl⟩ ⟨rfl, rfl⟩ (q0 := 0) rfl rfl rfl rfl rfl rfl (Nat.le_of_ble_eq_true rfl) dX6_webFor_21 ?_
      refine r_goto (pc := 24) C 28 dX6_webFor_24 (by decide) ?_
      exact r_iret (pc := 28) C hr hlk dX6_webFor_28 rfl (by first | rfl | (simp [gateI, gateF, *]; done) | simp_all [gateI, gateF]) (by rw [show (gateF (oneB n (nI j) && inB (nI t) 1 20) (rbA (σ 0) (σ 2) (8 + 5 * (nI j).toNatClampNeg + 3) (99 + 1)) (σ 2) : Nat → Int32) = rbA (σ 0) (σ 2) (8 + 5 * j + 3) (99 + 1) from (by first | rfl | (simp [gateI, gateF, *]; done) | simp_all [gateI, gateF])]; first | rfl | done)
theorem t_X6_webFor' (l : Launch) (ad : Nat → Nat) (D : va_G) (cs : Nat → ClassId) (h : Nat → Nat) (σ : Nat → Nat → Int32) (pre post : va_W) (f0_ : Nat → Int32) (e0_ : σ 0 = f0_) (f2_ : Nat → Int32) (e2_ : σ 2 = f2_) (n : Nat) (o k : Int32) (hN : f0_ 0 = nI n) (hn : n ≤ 8) : CTi l yX6_webFor cX6_webFor 3 .int ({ frames := 9, cells := 0, slots := 0, locals := 210 }) ad D (tysW cs) (pre ++ (wM cs h σ ++ post)) [.ref (h 0), .int o, .int k] (gateI (oneB n o && inB k 1 20) (rbB n f0_ (8 + 5 * o.toNatClampNeg + 3) k.toNatClampNeg o.toNatClampNeg (99 + 1)) (-1)) (pre ++ (wM cs h (su σ 2 (gateF (oneB n o && inB k 1 20) (rbA f0_ (f2_) (8 + 5 * o.toNatClampNeg + 3) (99 + 1)) (f2_))) ++ post)) := by
  subst e0_; subst e2_
  exact t_X6_webFor l ad D cs h σ pre post n o k hN hn
theorem dX6_kindFor_0 : decode cX6_kindFor 0 = .ok (.aload_n 0, 1) := by decide +kernel
theorem dX6_kindFor_1 : decode cX6_kindFor 1 = .ok (.iload_n 1, 1) := by decide +kernel
theorem dX6_kindFor_2 : decode cX6_kindFor 2 = .ok (.invokevirtual 168, 3) := by decide +kernel
theorem dX6_kindFor_5 : decode cX6_kindFor 5 = .ok (.ifCond .eq 21, 3) := by decide +kernel
theorem dX6_kindFor_8 : decode cX6_kindFor 8 = .ok (.iload_n 2, 1) := by decide +kernel
theorem dX6_kindFor_9 : decode cX6_kindFor 9 = .ok (.invokestatic 236, 3) := by decide +kernel
theorem dX6_kindFor_12 : decode cX6_kindFor 12 = .ok (.ifCond .eq 14, 3) := by decide +kernel
theorem dX6_kindFor_15 : decode cX6_kindFor 15 = .ok (.aload_n 0, 1) := by decide +kernel
theorem dX6_kindFor_16 : decode cX6_kindFor 16 = .ok (.iload_n 1, 1) := by decide +kernel
theorem dX6_kindFor_17 : decode cX6_kindFor 17 = .ok (.iconst 0, 1) := by decide +kernel
theorem dX6_kindFor_18 : decode cX6_kindFor 18 = .ok (.iconst 5, 1) := by decide +kernel
theorem dX6_kindFor_19 : decode cX6_kindFor 19 = .ok (.iload_n 2, 1) := by decide +kernel
theorem dX6_kindFor_20 : decode cX6_kindFor 20 = .ok (.invokevirtual 239, 3) := by decide +kernel
theorem dX6_kindFor_23 : decode cX6_kindFor 23 = .ok (.goto 4, 3) := by decide +kernel
theorem dX6_kindFor_26 : decode cX6_kindFor 26 = .ok (.iconst (-1), 1) := by decide +kernel
theorem dX6_kindFor_27 : decode cX6_kindFor 27 = .ok (.ireturn, 1) := by decide +kernel
set_option maxHeartbeats 400000 in
set_option maxRecDepth 20000 in
theorem t_X6_kindFor (l : Launch) (ad : Nat → Nat) (D : va_G) (cs : Nat → ClassId) (h : Nat → Nat) (σ : Nat → Nat → Int32) (pre post : va_W) (n : Nat) (o k : Int32) (hN : σ 0 0 = nI n) (hn : n ≤ 8) : CTi l yX6_kindFor cX6_kindFor 3 .int ({ frames := 9, cells := 0, slots := 0, locals := 210 }) ad D (tysW cs) (pre ++ (wM cs h σ ++ post)) [.ref (h 0), .int o, .int k] (gateI (oneB n o && inB k 1 20) (rbB n (σ 0) (8 + 5 * o.toNatClampNeg) k.toNatClampNeg o.toNatClampNeg (5 + 1)) (-1)) (pre ++ (wM cs h (su σ 2 (gateF (oneB n o && inB k 1 20) (rbA (σ 0) (σ 2) (8 + 5 * o.toNatClampNeg) (5 + 1)) (σ 2))) ++ post)) := by
  refine CTi.of (lv0 := [(0, .ref (h 0)), (1, .int o), (2, .int k)]) (by decide) rfl (Nat.le_of_ble_eq_true rfl) (fun p e s m args below meth c A C hr hlk => ?_)
  have C : Cx p s m args c cX6_kindFor 3 RX6 ad D (tysW cs) A := C
  refine r_aload_n (pc := 0) C 0 dX6_kindFor_0 rfl rfl ?_
  refine r_iload_n (pc := 1) C 1 dX6_kindFor_1 rfl rfl ?_
  refine rc_Vi (pc := 2) C (t_X6_isOne' l ad D cs h σ pre post (σ 0) (rfl) n o hN hn) mv_X6_isOne ml_RX6_168 rfl ⟨Nat.le_of_ble_eq_true rfl, Nat.le_of_ble_eq_true rfl⟩ ⟨rfl, rfl⟩ (q0 := 0) rfl rfl rfl rfl rfl rfl (Nat.le_of_ble_eq_true rfl) dX6_kindFor_2 ?_
  refine r_if_eq (pc := 5) C 26 dX6_kindFor_5 (by decide) (fun c_1 => ?_) (fun c_1 => ?_)
  · skip
    have c_1 := bI_0.mp c_1
    refine r_iconst (pc := 26) C (-1) dX6_kindFor_26 (by decide) ?_
    exact r_iret (pc := 27) C hr hlk dX6_kindFor_27 rfl (by first | rfl | (simp [gateI, gateF, *]; done) | simp_all [gateI, gateF]) (by rw [show (gateF (oneB n o && inB k 1 20) (rbA (σ 0) (σ 2) (8 + 5 * o.toNatClampNeg) (5 + 1)) (σ 2) : Nat → Int32) = σ 2 from (by first | rfl | (simp [gateI, gateF, *]; done) | simp_all [gateI, gateF])]; first | rfl | done)
  · skip
    have c_1 := bI_n.mp c_1
    obtain ⟨j, h_j, rfl⟩ := one_nat (by omega) c_1
    have e_j : (nI j).toNatClampNeg = j := nI_clamp (by omega)
    refine r_iload_n (pc := 8) C 2 dX6_kindFor_8 rfl rfl ?_
    refine rc_Si (pc := 9) C (t_X6_isShort l ad D (tysW cs) (wM cs h σ) pre post  k ) ms_X6_isShort ml_RX6_236 rfl ⟨Nat.le_of_ble_eq_true rfl, Nat.le_of_ble_eq_true rfl⟩ ⟨rfl, rfl⟩ rfl rfl rfl (Nat.le_of_ble_eq_true rfl) dX6_kindFor_9 ?_
    refine r_if_eq (pc := 12) C 26 dX6_kindFor_12 (by decide) (fun c_2 => ?_) (fun c_2 => ?_)
    · skip
      have c_2 := bI_0.mp c_2
      refine r_iconst (pc := 26) C (-1) dX6_kindFor_26 (by decide) ?_
      exact r_iret (pc := 27) C hr hlk dX6_kindFor_27 rfl (by first | rfl | (simp [gateI, gateF, *]; done) | simp_all [gateI, gateF]) (by rw [show (gateF (oneB n (nI j) && inB k 1 20) (rbA (σ 0) (σ 2) (8 + 5 * (nI j).toNatClampNeg) (5 + 1)) (σ 2) : Nat → Int32) = σ 2 from (by first | rfl | (simp [gateI, gateF, *]; done) | simp_all [gateI, gateF])]; first | rfl | done)
    · skip
      have c_2 := bI_n.mp c_2
      obtain ⟨t, l_t, h_t, rfl⟩ := rng_nat 1 20 (by decide) (by decide) c_2
      have e_t : (nI t).toNatClampNeg = t := nI_clamp (by omega)
      refine r_aload_n (pc := 15) C 0 dX6_kindFor_15 rfl rfl ?_
      refine r_iload_n (pc := 16) C 1 dX6_kindFor_16 rfl rfl ?_
      refine r_iconst (pc := 17) C 0 dX6_kindFor_17 (by decide) ?_
      refine r_iconst (pc := 18) C 5 dX6_kindFor_18 (by decide) ?_
      refine r_iload_n (pc := 19) C 2 dX6_kindFor_19 rfl rfl ?_
      refine rc_Vi (pc := 20) C (t_X6_richestBy' l ad D cs h σ pre post (σ 0) (rfl) (σ 2) (rfl) n j 0 5 t hN hn h_j (by omega) (by omega) (by omega)) mv_X6_richestBy ml_RX6_239 rfl ⟨Nat.le_of_ble_eq_true rfl, Nat.le_of_ble_eq_true rfl⟩ ⟨rfl, rfl⟩ (q0 := 0) rfl rfl rfl rfl rfl rfl (Nat.le_of_ble_eq_true rfl) dX6_kindFor_20 ?_
      refine r_eqi (y := rbB n (σ 0) (8 + 5 * j) t j (5 + 1)) rfl ?_
      refine r_goto (pc := 23) C 27 dX6_kindFor_23 (by decide) ?_
      exact r_iret (pc := 27) C hr hlk dX6_kindFor_27 rfl (by first | rfl | (simp [gateI, gateF, *]; done) | simp_all [gateI, gateF]) (by rw [show (gateF (oneB n (nI j) && inB (nI t) 1 20) (rbA (σ 0) (σ 2) (8 + 5 * (nI j).toNatClampNeg) (5 + 1)) (σ 2) : Nat → Int32) = rbA (σ 0) (σ 2) (8 + 5 * j) (5 + 1) from (by first | rfl | (simp [gateI, gateF, *]; done) | simp_all [gateI, gateF])]; first | rfl | done)
theorem t_X6_kindFor' (l : Launch) (ad : Nat → Nat) (D : va_G) (cs : Nat → ClassId) (h : Nat → Nat) (σ : Nat → Nat → Int32) (pre post : va_W) (f0_ : Nat → Int32) (e0_ : σ 0 = f0_) (f2_ : Nat → Int32) (e2_ : σ 2 = f2_) (n : Nat) (o k : Int32) (hN : f0_ 0 = nI n) (hn : n ≤ 8) : CTi l yX6_kindFor cX6_kindFor 3 .int ({ frames := 9, cells := 0, slots := 0, locals := 210 }) ad D (tysW cs) (pre ++ (wM cs h σ ++ post)) [.ref (h 0), .int o, .int k] (gateI (oneB n o && inB k 1 20) (rbB n f0_ (8 + 5 * o.toNatClampNeg) k.toNatClampNeg o.toNatClampNeg (5 + 1)) (-1)) (pre ++ (wM cs h (su σ 2 (gateF (oneB n o && inB k 1 20) (rbA f0_ (f2_) (8 + 5 * o.toNatClampNeg) (5 + 1)) (f2_))) ++ post)) := by
  subst e0_; subst e2_
  exact t_X6_kindFor l ad D cs h σ pre post n o k hN hn
theorem dX6_fair_0 : decode cX6_fair 0 = .ok (.aload_n 0, 1) := by decide +kernel
theorem dX6_fair_1 : decode cX6_fair 1 = .ok (.iload_n 1, 1) := by decide +kernel
theorem dX6_fair_2 : decode cX6_fair 2 = .ok (.invokevirtual 168, 3) := by decide +kernel
theorem dX6_fair_5 : decode cX6_fair 5 = .ok (.ifCond .eq 11, 3) := by decide +kernel
theorem dX6_fair_8 : decode cX6_fair 8 = .ok (.aload_n 0, 1) := by decide +kernel
theorem dX6_fair_9 : decode cX6_fair 9 = .ok (.iload_n 1, 1) := by decide +kernel
theorem dX6_fair_10 : decode cX6_fair 10 = .ok (.invokevirtual 216, 3) := by decide +kernel
theorem dX6_fair_13 : decode cX6_fair 13 = .ok (.goto 4, 3) := by decide +kernel
theorem dX6_fair_16 : decode cX6_fair 16 = .ok (.iconst (-1), 1) := by decide +kernel
theorem dX6_fair_17 : decode cX6_fair 17 = .ok (.ireturn, 1) := by decide +kernel
set_option maxHeartbeats 400000 in
set_option maxRecDepth 20000 in
theorem t_X6_fair (l : Launch) (ad : Nat → Nat) (D : va_G) (cs : Nat → ClassId) (h : Nat → Nat) (σ : Nat → Nat → Int32) (pre post : va_W) (n : Nat) (o : Int32) (hN : σ 0 0 = nI n) (hn : n ≤ 8) : CTi l yX6_fair cX6_fair 2 .int ({ frames := 5, cells := 0, slots := 0, locals := 113 }) ad D (tysW cs) (pre ++ (wM cs h σ ++ post)) [.ref (h 0), .int o] (gateI (oneB n o) (fairF (σ 0) o.toNatClampNeg n) (-1)) (pre ++ (wM cs h σ ++ post)) := by
  refine CTi.of (lv0 := [(0, .ref (h 0)), (1, .int o)]) (by decide) rfl (Nat.le_of_ble_eq_true rfl) (fun p e s m args below meth c A C hr hlk => ?_)
  have C : Cx p s m args c cX6_fair 2 RX6 ad D (tysW cs) A := C
  refine r_aload_n (pc := 0) C 0 dX6_fair_0 rfl rfl ?_
  refine r_iload_n (pc := 1) C 1 dX6_fair_1 rfl rfl ?_
  refine rc_Vi (pc := 2) C (t_X6_isOne' l ad D cs h σ pre post (σ 0) (rfl) n o hN hn) mv_X6_isOne ml_RX6_168 rfl ⟨Nat.le_of_ble_eq_true rfl, Nat.le_of_ble_eq_true rfl⟩ ⟨rfl, rfl⟩ (q0 := 0) rfl rfl rfl rfl rfl rfl (Nat.le_of_ble_eq_true rfl) dX6_fair_2 ?_
  refine r_if_eq (pc := 5) C 16 dX6_fair_5 (by decide) (fun c_1 => ?_) (fun c_1 => ?_)
  · skip
    have c_1 := bI_0.mp c_1
    refine r_iconst (pc := 16) C (-1) dX6_fair_16 (by decide) ?_
    exact r_iret (pc := 17) C hr hlk dX6_fair_17 rfl (by first | rfl | (simp [gateI, gateF, *]; done) | simp_all [gateI, gateF]) rfl
  · skip
    have c_1 := bI_n.mp c_1
    obtain ⟨j, h_j, rfl⟩ := one_nat (by omega) c_1
    have e_j : (nI j).toNatClampNeg = j := nI_clamp (by omega)
    refine r_aload_n (pc := 8) C 0 dX6_fair_8 rfl rfl ?_
    refine r_iload_n (pc := 9) C 1 dX6_fair_9 rfl rfl ?_
    refine rc_Vi (pc := 10) C (t_X6_fairWith' l ad D cs h σ pre post (σ 0) (rfl) n j hN hn h_j) mv_X6_fairWith ml_RX6_216 rfl ⟨Nat.le_of_ble_eq_true rfl, Nat.le_of_ble_eq_true rfl⟩ ⟨rfl, rfl⟩ (q0 := 0) rfl rfl rfl rfl rfl rfl (Nat.le_of_ble_eq_true rfl) dX6_fair_10 ?_
    refine r_goto (pc := 13) C 17 dX6_fair_13 (by decide) ?_
    exact r_iret (pc := 17) C hr hlk dX6_fair_17 rfl (by first | rfl | (simp [gateI, gateF, *]; done) | simp_all [gateI, gateF]) rfl
theorem t_X6_fair' (l : Launch) (ad : Nat → Nat) (D : va_G) (cs : Nat → ClassId) (h : Nat → Nat) (σ : Nat → Nat → Int32) (pre post : va_W) (f0_ : Nat → Int32) (e0_ : σ 0 = f0_) (n : Nat) (o : Int32) (hN : f0_ 0 = nI n) (hn : n ≤ 8) : CTi l yX6_fair cX6_fair 2 .int ({ frames := 5, cells := 0, slots := 0, locals := 113 }) ad D (tysW cs) (pre ++ (wM cs h σ ++ post)) [.ref (h 0), .int o] (gateI (oneB n o) (fairF f0_ o.toNatClampNeg n) (-1)) (pre ++ (wM cs h σ ++ post)) := by
  subst e0_
  exact t_X6_fair l ad D cs h σ pre post n o hN hn
theorem dX6_size_0 : decode cX6_size 0 = .ok (.iconst 0, 1) := by decide +kernel
theorem dX6_size_1 : decode cX6_size 1 = .ok (.istore_n 1, 1) := by decide +kernel
theorem dX6_size_2 : decode cX6_size 2 = .ok (.iload_n 0, 1) := by decide +kernel
theorem dX6_size_3 : decode cX6_size 3 = .ok (.istore_n 2, 1) := by decide +kernel
theorem dX6_size_4 : decode cX6_size 4 = .ok (.iload_n 2, 1) := by decide +kernel
theorem dX6_size_5 : decode cX6_size 5 = .ok (.ifCond .eq 15, 3) := by decide +kernel
theorem dX6_size_8 : decode cX6_size 8 = .ok (.iinc 1 1, 3) := by decide +kernel
theorem dX6_size_11 : decode cX6_size 11 = .ok (.iload_n 2, 1) := by decide +kernel
theorem dX6_size_12 : decode cX6_size 12 = .ok (.iload_n 2, 1) := by decide +kernel
theorem dX6_size_13 : decode cX6_size 13 = .ok (.iconst 1, 1) := by decide +kernel
theorem dX6_size_14 : decode cX6_size 14 = .ok (.isub, 1) := by decide +kernel
theorem dX6_size_15 : decode cX6_size 15 = .ok (.iand, 1) := by decide +kernel
theorem dX6_size_16 : decode cX6_size 16 = .ok (.istore_n 2, 1) := by decide +kernel
theorem dX6_size_17 : decode cX6_size 17 = .ok (.goto (-13), 3) := by decide +kernel
theorem dX6_size_20 : decode cX6_size 20 = .ok (.iload_n 1, 1) := by decide +kernel
theorem dX6_size_21 : decode cX6_size 21 = .ok (.ireturn, 1) := by decide +kernel
set_option maxHeartbeats 400000 in
set_option maxRecDepth 20000 in
theorem t_X6_size (l : Launch) (ad : Nat → Nat) (D : va_G) (tys : List (ClassId × FieldType)) (bk : va_W) (pre post : va_W) (w : Nat) (hw : w < 256) : CTi l yX6_size cX6_size 3 .int ({ frames := 0, cells := 0, slots := 0, locals := 0 }) ad D tys (pre ++ (bk ++ post)) [.int (nI w)] (nI (pcN w)) (pre ++ (bk ++ post)) := by
  refine CTi.of (lv0 := [(0, .int (nI w))]) (by decide) rfl (Nat.le_of_ble_eq_true rfl) (fun p e s m args below meth c A C hr hlk => ?_)
  have C : Cx p s m args c cX6_size 3 RX6 ad D tys A := C
  have h8 := pc_8 w hw
  refine r_iconst (pc := 0) C 0 dX6_size_0 (by decide) ?_
  refine r_istore_n (pc := 1) C [(1, .int 0), (0, .int (nI w))] dX6_size_1 rfl (by decide) rfl ?_
  refine r_iload_n (pc := 2) C 1 dX6_size_2 rfl rfl ?_
  refine r_istore_n (pc := 3) C [(2, .int (nI w)), (1, .int 0), (0, .int (nI w))] dX6_size_3 rfl (by decide) rfl ?_
  refine r_pick (lv' := [(0, .int (nI w)), (1, .int 0), (2, .int (nI w))]) [2, 1, 0] rfl ?_
  refine r_lv (lv' := [(0, .int (nI w)), (1, .int 0), (2, .int (nI (szI w 0)))]) (rfl) ?_
  refine r_loop (blkf := fun i => bk) (lvf := fun i => [(0, .int (nI w)), (1, .int (nI i)), (2, .int (nI (szI w i)))]) (fun i => pcN (szI w i) + i = pcN w ∧ szI w i < 256) (pcN w) 0 (by omega) (⟨rfl, hw⟩) (fun i h_i hx ih => ?_)
  show VX p l e _ s m args below meth c _ D A 3 pre bk post 4 [(0, .int (nI w)), (1, .int (nI i)), (2, .int (nI (szI w i)))] []
  refine r_iload_n (pc := 4) C 2 dX6_size_4 rfl rfl ?_
  have hx2 := hx.2
  refine r_if_eq (pc := 5) C 20 dX6_size_5 (by decide) (fun c_1 => ?_) (fun c_1 => ?_)
  · skip
    have c_1 := nIc_eq_t (a := (szI w i)) (b := 0) (by omega) (by omega) c_1
    have hi := hx.1; rw [c_1] at hi; have hi : i = pcN w := by simpa [pcN] using hi
    refine r_iload_n (pc := 20) C 1 dX6_size_20 rfl rfl ?_
    exact r_iret (pc := 21) C hr hlk dX6_size_21 rfl (by rw [hi]) rfl
  · skip
    have c_1 := nIc_eq_f (a := (szI w i)) (b := 0) (by omega) (by omega) c_1
    have hz := szI_lt hx c_1
    refine r_iinc (pc := 8) C (nI (i + 1)) 1 [(1, .int (nI (i + 1))), (0, .int (nI w)), (2, .int (nI (szI w i)))] dX6_size_8 rfl (nI_1 _) (by decide) rfl ?_
    refine r_iload_n (pc := 11) C 2 dX6_size_11 rfl rfl ?_
    refine r_iload_n (pc := 12) C 2 dX6_size_12 rfl rfl ?_
    refine r_iconst (pc := 13) C 1 dX6_size_13 (by decide) ?_
    refine r_isub (pc := 14) C dX6_size_14 ?_
    refine r_eqi (y := nI (szI w i - 1)) (pk_sub (b := 1) (by omega)) ?_
    refine r_iand (pc := 15) C dX6_size_15 ?_
    refine r_eqi (y := nI (szI w i &&& (szI w i - 1))) (nI_and _ _) ?_
    refine r_istore_n (pc := 16) C [(2, .int (nI (szI w i &&& (szI w i - 1)))), (1, .int (nI (i + 1))), (0, .int (nI w))] dX6_size_16 rfl (by decide) rfl ?_
    refine r_goto (pc := 17) C 4 dX6_size_17 (by decide) ?_
    refine r_pick (lv' := [(0, .int (nI w)), (1, .int (nI (i + 1))), (2, .int (nI (szI w i &&& (szI w i - 1))))]) [2, 1, 0] rfl ?_
    refine r_lv (lv' := [(0, .int (nI w)), (1, .int (nI (i + 1))), (2, .int (nI (szI w (i + 1))))]) (rfl) ?_
    exact ih (by omega) (szI_s hx ‹_›)
theorem dX6_fairPairs_0 : decode cX6_fairPairs 0 = .ok (.iconst 0, 1) := by decide +kernel
theorem dX6_fairPairs_1 : decode cX6_fairPairs 1 = .ok (.istore_n 1, 1) := by decide +kernel
theorem dX6_fairPairs_2 : decode cX6_fairPairs 2 = .ok (.iconst 0, 1) := by decide +kernel
theorem dX6_fairPairs_3 : decode cX6_fairPairs 3 = .ok (.istore_n 2, 1) := by decide +kernel
theorem dX6_fairPairs_4 : decode cX6_fairPairs 4 = .ok (.iload_n 2, 1) := by decide +kernel
theorem dX6_fairPairs_5 : decode cX6_fairPairs 5 = .ok (.aload_n 0, 1) := by decide +kernel
theorem dX6_fairPairs_6 : decode cX6_fairPairs 6 = .ok (.getfield 7, 3) := by decide +kernel
theorem dX6_fairPairs_9 : decode cX6_fairPairs 9 = .ok (.iconst 0, 1) := by decide +kernel
theorem dX6_fairPairs_10 : decode cX6_fairPairs 10 = .ok (.iaload, 1) := by decide +kernel
theorem dX6_fairPairs_11 : decode cX6_fairPairs 11 = .ok (.if_icmp .ge 24, 3) := by decide +kernel
theorem dX6_fairPairs_14 : decode cX6_fairPairs 14 = .ok (.iload_n 1, 1) := by decide +kernel
theorem dX6_fairPairs_15 : decode cX6_fairPairs 15 = .ok (.aload_n 0, 1) := by decide +kernel
theorem dX6_fairPairs_16 : decode cX6_fairPairs 16 = .ok (.iload_n 2, 1) := by decide +kernel
theorem dX6_fairPairs_17 : decode cX6_fairPairs 17 = .ok (.invokevirtual 216, 3) := by decide +kernel
theorem dX6_fairPairs_20 : decode cX6_fairPairs 20 = .ok (.iload_n 2, 1) := by decide +kernel
theorem dX6_fairPairs_21 : decode cX6_fairPairs 21 = .ok (.iconst 1, 1) := by decide +kernel
theorem dX6_fairPairs_22 : decode cX6_fairPairs 22 = .ok (.iadd, 1) := by decide +kernel
theorem dX6_fairPairs_23 : decode cX6_fairPairs 23 = .ok (.ishr, 1) := by decide +kernel
theorem dX6_fairPairs_24 : decode cX6_fairPairs 24 = .ok (.invokestatic 219, 3) := by decide +kernel
theorem dX6_fairPairs_27 : decode cX6_fairPairs 27 = .ok (.iadd, 1) := by decide +kernel
theorem dX6_fairPairs_28 : decode cX6_fairPairs 28 = .ok (.istore_n 1, 1) := by decide +kernel
theorem dX6_fairPairs_29 : decode cX6_fairPairs 29 = .ok (.iinc 2 1, 3) := by decide +kernel
theorem dX6_fairPairs_32 : decode cX6_fairPairs 32 = .ok (.goto (-28), 3) := by decide +kernel
theorem dX6_fairPairs_35 : decode cX6_fairPairs 35 = .ok (.iload_n 1, 1) := by decide +kernel
theorem dX6_fairPairs_36 : decode cX6_fairPairs 36 = .ok (.ireturn, 1) := by decide +kernel
set_option maxHeartbeats 400000 in
set_option maxRecDepth 20000 in
theorem t_X6_fairPairs (l : Launch) (ad : Nat → Nat) (D : va_G) (cs : Nat → ClassId) (h : Nat → Nat) (σ : Nat → Nat → Int32) (pre post : va_W) (n : Nat) (hN : σ 0 0 = nI n) (hn : n ≤ 8) : CTi l yX6_fairPairs cX6_fairPairs 3 .int ({ frames := 5, cells := 0, slots := 0, locals := 113 }) ad D (tysW cs) (pre ++ (wM cs h σ ++ post)) [.ref (h 0)] (fpS n (σ 0) n) (pre ++ (wM cs h σ ++ post)) := by
  refine CTi.of (lv0 := [(0, .ref (h 0))]) (by decide) rfl (Nat.le_of_ble_eq_true rfl) (fun p e s m args below meth c A C hr hlk => ?_)
  have C : Cx p s m args c cX6_fairPairs 3 RX6 ad D (tysW cs) A := C
  refine r_iconst (pc := 0) C 0 dX6_fairPairs_0 (by decide) ?_
  refine r_istore_n (pc := 1) C [(1, .int 0), (0, .ref (h 0))] dX6_fairPairs_1 rfl (by decide) rfl ?_
  refine r_iconst (pc := 2) C 0 dX6_fairPairs_2 (by decide) ?_
  refine r_istore_n (pc := 3) C [(2, .int 0), (1, .int 0), (0, .ref (h 0))] dX6_fairPairs_3 rfl (by decide) rfl ?_
  refine r_pick (lv' := [(0, .ref (h 0)), (1, .int 0), (2, .int 0)]) [2, 1, 0] rfl ?_
  refine r_lv (lv' := [(0, .ref (h 0)), (1, .int (fpS n (σ 0) 0)), (2, .int 0)]) (rfl) ?_
  refine r_loop (blkf := fun i => wM cs h σ) (lvf := fun i => [(0, .ref (h 0)), (1, .int (fpS n (σ 0) i)), (2, .int (nI i))]) (fun i => True) n 0 (by omega) (trivial) (fun i h_i _ ih => ?_)
  show VX p l e _ s m args below meth c _ D A 3 pre (wM cs h σ) post 4 [(0, .ref (h 0)), (1, .int (fpS n (σ 0) i)), (2, .int (nI i))] []
  refine r_iload_n (pc := 4) C 2 dX6_fairPairs_4 rfl rfl ?_
  refine r_aload_n (pc := 5) C 0 dX6_fairPairs_5 rfl rfl ?_
  refine mg_s (pc := 6) C fl_RX6_7 dX6_fairPairs_6 ?_
  refine r_iconst (pc := 9) C 0 dX6_fairPairs_9 (by decide) ?_
  refine al_s (pc := 10) C 0 (rfl) (by omega) dX6_fairPairs_10 (σ 0 0) rfl ?_
  refine r_eqi (y := nI n) (hN) ?_
  refine r_icmp_ge (pc := 11) C 35 dX6_fairPairs_11 (by decide) (fun c_1 => ?_) (fun c_1 => ?_)
  · skip
    have c_1 := nIc_ge_t (a := i) (b := n) (by omega) (by omega) c_1
    obtain rfl : n = i := by omega
    refine r_iload_n (pc := 35) C 1 dX6_fairPairs_35 rfl rfl ?_
    exact r_iret (pc := 36) C hr hlk dX6_fairPairs_36 rfl rfl rfl
  · skip
    have c_1 := nIc_ge_f (a := i) (b := n) (by omega) (by omega) c_1
    refine r_iload_n (pc := 14) C 1 dX6_fairPairs_14 rfl rfl ?_
    refine r_aload_n (pc := 15) C 0 dX6_fairPairs_15 rfl rfl ?_
    refine r_iload_n (pc := 16) C 2 dX6_fairPairs_16 rfl rfl ?_
    refine rc_Vi (pc := 17) C (t_X6_fairWith' l ad D cs h σ pre post (σ 0) (rfl) n i hN hn (by omega)) mv_X6_fairWith ml_RX6_216 rfl ⟨Nat.le_of_ble_eq_true rfl, Nat.le_of_ble_eq_true rfl⟩ ⟨rfl, rfl⟩ (q0 := 0) rfl rfl rfl rfl rfl rfl (Nat.le_of_ble_eq_true rfl) dX6_fairPairs_17 ?_
    refine r_eqi (y := nI (fairN (σ 0) i n)) (fairF_N _ _ _ (by omega)) ?_
    have h_f := fairN_256 (m := σ 0) (o := i) hn
    refine r_iload_n (pc := 20) C 2 dX6_fairPairs_20 rfl rfl ?_
    refine r_iconst (pc := 21) C 1 dX6_fairPairs_21 (by decide) ?_
    refine r_iadd (pc := 22) C dX6_fairPairs_22 ?_
    refine r_eqi (y := nI (i + 1)) (nI_add i 1) ?_
    refine r_ishr (pc := 23) C dX6_fairPairs_23 ?_
    refine r_eqi (y := nI (fairN (σ 0) i n / 2 ^ (i + 1))) (pk_shrN (by omega) _ _ (sh_k _ (by omega))) ?_
    refine rc_Si (pc := 24) C (t_X6_size l ad D (tysW cs) (wM cs h σ) pre post  (fairN (σ 0) i n / 2 ^ (i + 1)) (Nat.lt_of_le_of_lt (Nat.div_le_self _ _) (by omega))) ms_X6_size ml_RX6_219 rfl ⟨Nat.le_of_ble_eq_true rfl, Nat.le_of_ble_eq_true rfl⟩ ⟨rfl, rfl⟩ rfl rfl rfl (Nat.le_of_ble_eq_true rfl) dX6_fairPairs_24 ?_
    refine r_iadd (pc := 27) C dX6_fairPairs_27 ?_
    refine r_istore_n (pc := 28) C [(1, .int ((fpS n (σ 0) i) + (nI (pcN (fairN (σ 0) i n / 2 ^ (i + 1)))))), (0, .ref (h 0)), (2, .int (nI i))] dX6_fairPairs_28 rfl (by decide) rfl ?_
    refine r_iinc (pc := 29) C (nI (i + 1)) 2 [(2, .int (nI (i + 1))), (1, .int ((fpS n (σ 0) i) + (nI (pcN (fairN (σ 0) i n / 2 ^ (i + 1)))))), (0, .ref (h 0))] dX6_fairPairs_29 rfl (nI_1 _) (by decide) rfl ?_
    refine r_goto (pc := 32) C 4 dX6_fairPairs_32 (by decide) ?_
    refine r_pick (lv' := [(0, .ref (h 0)), (1, .int ((fpS n (σ 0) i) + (nI (pcN (fairN (σ 0) i n / 2 ^ (i + 1)))))), (2, .int (nI (i + 1)))]) [2, 1, 0] rfl ?_
    refine r_lv (lv' := [(0, .ref (h 0)), (1, .int (fpS n (σ 0) (i + 1))), (2, .int (nI (i + 1)))]) (rfl) ?_
    exact ih (by omega) (trivial)
theorem t_X6_fairPairs' (l : Launch) (ad : Nat → Nat) (D : va_G) (cs : Nat → ClassId) (h : Nat → Nat) (σ : Nat → Nat → Int32) (pre post : va_W) (f0_ : Nat → Int32) (e0_ : σ 0 = f0_) (n : Nat) (hN : f0_ 0 = nI n) (hn : n ≤ 8) : CTi l yX6_fairPairs cX6_fairPairs 3 .int ({ frames := 5, cells := 0, slots := 0, locals := 113 }) ad D (tysW cs) (pre ++ (wM cs h σ ++ post)) [.ref (h 0)] (fpS n f0_ n) (pre ++ (wM cs h σ ++ post)) := by
  subst e0_
  exact t_X6_fairPairs l ad D cs h σ pre post n hN hn
theorem dX6_state_0 : decode cX6_state 0 = .ok (.iload_n 1, 1) := by decide +kernel
theorem dX6_state_1 : decode cX6_state 1 = .ok (.tableswitch 75 0 5 #[39, 46, 53, 59, 64, 70], 39) := by decide +kernel
theorem dX6_state_40 : decode cX6_state 40 = .ok (.aload_n 0, 1) := by decide +kernel
theorem dX6_state_41 : decode cX6_state 41 = .ok (.getfield 7, 3) := by decide +kernel
theorem dX6_state_44 : decode cX6_state 44 = .ok (.iconst 1, 1) := by decide +kernel
theorem dX6_state_45 : decode cX6_state 45 = .ok (.iaload, 1) := by decide +kernel
theorem dX6_state_46 : decode cX6_state 46 = .ok (.ireturn, 1) := by decide +kernel
theorem dX6_state_47 : decode cX6_state 47 = .ok (.aload_n 0, 1) := by decide +kernel
theorem dX6_state_48 : decode cX6_state 48 = .ok (.getfield 7, 3) := by decide +kernel
theorem dX6_state_51 : decode cX6_state 51 = .ok (.iconst 3, 1) := by decide +kernel
theorem dX6_state_52 : decode cX6_state 52 = .ok (.iaload, 1) := by decide +kernel
theorem dX6_state_53 : decode cX6_state 53 = .ok (.ireturn, 1) := by decide +kernel
theorem dX6_state_54 : decode cX6_state 54 = .ok (.aload_n 0, 1) := by decide +kernel
theorem dX6_state_55 : decode cX6_state 55 = .ok (.iconst 4, 1) := by decide +kernel
theorem dX6_state_56 : decode cX6_state 56 = .ok (.invokevirtual 204, 3) := by decide +kernel
theorem dX6_state_59 : decode cX6_state 59 = .ok (.ireturn, 1) := by decide +kernel
theorem dX6_state_60 : decode cX6_state 60 = .ok (.aload_n 0, 1) := by decide +kernel
theorem dX6_state_61 : decode cX6_state 61 = .ok (.invokevirtual 222, 3) := by decide +kernel
theorem dX6_state_64 : decode cX6_state 64 = .ok (.ireturn, 1) := by decide +kernel
theorem dX6_state_65 : decode cX6_state 65 = .ok (.aload_n 0, 1) := by decide +kernel
theorem dX6_state_66 : decode cX6_state 66 = .ok (.iconst 3, 1) := by decide +kernel
theorem dX6_state_67 : decode cX6_state 67 = .ok (.invokevirtual 204, 3) := by decide +kernel
theorem dX6_state_70 : decode cX6_state 70 = .ok (.ireturn, 1) := by decide +kernel
theorem dX6_state_71 : decode cX6_state 71 = .ok (.aload_n 0, 1) := by decide +kernel
theorem dX6_state_72 : decode cX6_state 72 = .ok (.invokevirtual 225, 3) := by decide +kernel
theorem dX6_state_75 : decode cX6_state 75 = .ok (.ireturn, 1) := by decide +kernel
theorem dX6_state_76 : decode cX6_state 76 = .ok (.iconst (-1), 1) := by decide +kernel
theorem dX6_state_77 : decode cX6_state 77 = .ok (.ireturn, 1) := by decide +kernel
set_option maxHeartbeats 400000 in
set_option maxRecDepth 20000 in
theorem t_X6_state (l : Launch) (ad : Nat → Nat) (D : va_G) (cs : Nat → ClassId) (h : Nat → Nat) (σ : Nat → Nat → Int32) (pre post : va_W) (n : Nat) (w : Int32) (hN : σ 0 0 = nI n) (hn : n ≤ 8) : CTi l yX6_state cX6_state 2 .int ({ frames := 6, cells := 0, slots := 0, locals := 135 }) ad D (tysW cs) (pre ++ (wM cs h σ ++ post)) [.ref (h 0), .int w] (stA n (σ 0) w) (pre ++ (wM cs h σ ++ post)) := by
  refine CTi.of (lv0 := [(0, .ref (h 0)), (1, .int w)]) (by decide) rfl (Nat.le_of_ble_eq_true rfl) (fun p e s m args below meth c A C hr hlk => ?_)
  have C : Cx p s m args c cX6_state 2 RX6 ad D (tysW cs) A := C
  refine r_iload_n (pc := 0) C 1 dX6_state_0 rfl rfl ?_
  have w_1 := sw_cases w 0 5 (by decide)
  rcases w_1 with w_1 | w_1
  · skip
    refine r_tableOut (pc := 1) C 39 76 dX6_state_1 w_1 (by decide) ?_
    have w_1_0 : ¬ w = 0 := fun q => by rw [q] at w_1; revert w_1; decide
    have w_1_1 : ¬ w = 1 := fun q => by rw [q] at w_1; revert w_1; decide
    have w_1_2 : ¬ w = 2 := fun q => by rw [q] at w_1; revert w_1; decide
    have w_1_3 : ¬ w = 3 := fun q => by rw [q] at w_1; revert w_1; decide
    have w_1_4 : ¬ w = 4 := fun q => by rw [q] at w_1; revert w_1; decide
    have w_1_5 : ¬ w = 5 := fun q => by rw [q] at w_1; revert w_1; decide
    refine r_iconst (pc := 76) C (-1) dX6_state_76 (by decide) ?_
    exact r_iret (pc := 77) C hr hlk dX6_state_77 rfl (by simp [stA, *]) rfl
  · obtain ⟨i_1, hi_1, w_1⟩ := w_1
    have hc_1 : i_1 = 0 ∨ i_1 = 1 ∨ i_1 = 2 ∨ i_1 = 3 ∨ i_1 = 4 ∨ i_1 = 5 := by omega
    rcases hc_1 with rfl | rfl | rfl | rfl | rfl | rfl
    · skip
      refine r_tableIn (pc := 1) C 39 40 dX6_state_1 (by rw [w_1]; decide) (by rw [w_1]; decide) (by rw [w_1]; rfl) (by decide) ?_
      have w_1 : w = 0 := Int32.toInt_inj.mp (by rw [w_1]; rfl)
      refine r_aload_n (pc := 40) C 0 dX6_state_40 rfl rfl ?_
      refine mg_s (pc := 41) C fl_RX6_7 dX6_state_41 ?_
      refine r_iconst (pc := 44) C 1 dX6_state_44 (by decide) ?_
      refine al_s (pc := 45) C 1 (rfl) (by omega) dX6_state_45 (σ 0 1) rfl ?_
      exact r_iret (pc := 46) C hr hlk dX6_state_46 rfl (by simp [stA, *]) rfl
    · skip
      refine r_tableIn (pc := 1) C 39 47 dX6_state_1 (by rw [w_1]; decide) (by rw [w_1]; decide) (by rw [w_1]; rfl) (by decide) ?_
      have w_1 : w = 1 := Int32.toInt_inj.mp (by rw [w_1]; rfl)
      refine r_aload_n (pc := 47) C 0 dX6_state_47 rfl rfl ?_
      refine mg_s (pc := 48) C fl_RX6_7 dX6_state_48 ?_
      refine r_iconst (pc := 51) C 3 dX6_state_51 (by decide) ?_
      refine al_s (pc := 52) C 3 (rfl) (by omega) dX6_state_52 (σ 0 3) rfl ?_
      exact r_iret (pc := 53) C hr hlk dX6_state_53 rfl (by simp [stA, *]) rfl
    · skip
      refine r_tableIn (pc := 1) C 39 54 dX6_state_1 (by rw [w_1]; decide) (by rw [w_1]; decide) (by rw [w_1]; rfl) (by decide) ?_
      have w_1 : w = 2 := Int32.toInt_inj.mp (by rw [w_1]; rfl)
      refine r_aload_n (pc := 54) C 0 dX6_state_54 rfl rfl ?_
      refine r_iconst (pc := 55) C 4 dX6_state_55 (by decide) ?_
      refine rc_Vi (pc := 56) C (t_X6_sumOf' l ad D cs h σ pre post (σ 0) (rfl) n 4 hN hn (by omega)) mv_X6_sumOf ml_RX6_204 rfl ⟨Nat.le_of_ble_eq_true rfl, Nat.le_of_ble_eq_true rfl⟩ ⟨rfl, rfl⟩ (q0 := 0) rfl rfl rfl rfl rfl rfl (Nat.le_of_ble_eq_true rfl) dX6_state_56 ?_
      exact r_iret (pc := 59) C hr hlk dX6_state_59 rfl (by simp [stA, *]) rfl
    · skip
      refine r_tableIn (pc := 1) C 39 60 dX6_state_1 (by rw [w_1]; decide) (by rw [w_1]; decide) (by rw [w_1]; rfl) (by decide) ?_
      have w_1 : w = 3 := Int32.toInt_inj.mp (by rw [w_1]; rfl)
      refine r_aload_n (pc := 60) C 0 dX6_state_60 rfl rfl ?_
      refine rc_Vi (pc := 61) C (t_X6_onSteps' l ad D cs h σ pre post (σ 0) (rfl) n hN hn) mv_X6_onSteps ml_RX6_222 rfl ⟨Nat.le_of_ble_eq_true rfl, Nat.le_of_ble_eq_true rfl⟩ ⟨rfl, rfl⟩ (q0 := 0) rfl rfl rfl rfl rfl rfl (Nat.le_of_ble_eq_true rfl) dX6_state_61 ?_
      exact r_iret (pc := 64) C hr hlk dX6_state_64 rfl (by simp [stA, *]) rfl
    · skip
      refine r_tableIn (pc := 1) C 39 65 dX6_state_1 (by rw [w_1]; decide) (by rw [w_1]; decide) (by rw [w_1]; rfl) (by decide) ?_
      have w_1 : w = 4 := Int32.toInt_inj.mp (by rw [w_1]; rfl)
      refine r_aload_n (pc := 65) C 0 dX6_state_65 rfl rfl ?_
      refine r_iconst (pc := 66) C 3 dX6_state_66 (by decide) ?_
      refine rc_Vi (pc := 67) C (t_X6_sumOf' l ad D cs h σ pre post (σ 0) (rfl) n 3 hN hn (by omega)) mv_X6_sumOf ml_RX6_204 rfl ⟨Nat.le_of_ble_eq_true rfl, Nat.le_of_ble_eq_true rfl⟩ ⟨rfl, rfl⟩ (q0 := 0) rfl rfl rfl rfl rfl rfl (Nat.le_of_ble_eq_true rfl) dX6_state_67 ?_
      exact r_iret (pc := 70) C hr hlk dX6_state_70 rfl (by simp [stA, *]) rfl
    · skip
      refine r_tableIn (pc := 1) C 39 71 dX6_state_1 (by rw [w_1]; decide) (by rw [w_1]; decide) (by rw [w_1]; rfl) (by decide) ?_
      have w_1 : w = 5 := Int32.toInt_inj.mp (by rw [w_1]; rfl)
      refine r_aload_n (pc := 71) C 0 dX6_state_71 rfl rfl ?_
      refine rc_Vi (pc := 72) C (t_X6_fairPairs' l ad D cs h σ pre post (σ 0) (rfl) n hN hn) mv_X6_fairPairs ml_RX6_225 rfl ⟨Nat.le_of_ble_eq_true rfl, Nat.le_of_ble_eq_true rfl⟩ ⟨rfl, rfl⟩ (q0 := 0) rfl rfl rfl rfl rfl rfl (Nat.le_of_ble_eq_true rfl) dX6_state_72 ?_
      exact r_iret (pc := 75) C hr hlk dX6_state_75 rfl (by simp [stA, *]) rfl
theorem t_X6_state' (l : Launch) (ad : Nat → Nat) (D : va_G) (cs : Nat → ClassId) (h : Nat → Nat) (σ : Nat → Nat → Int32) (pre post : va_W) (f0_ : Nat → Int32) (e0_ : σ 0 = f0_) (n : Nat) (w : Int32) (hN : f0_ 0 = nI n) (hn : n ≤ 8) : CTi l yX6_state cX6_state 2 .int ({ frames := 6, cells := 0, slots := 0, locals := 135 }) ad D (tysW cs) (pre ++ (wM cs h σ ++ post)) [.ref (h 0), .int w] (stA n f0_ w) (pre ++ (wM cs h σ ++ post)) := by
  subst e0_
  exact t_X6_state l ad D cs h σ pre post n w hN hn
theorem dX6_set_0 : decode cX6_set 0 = .ok (.iload_n 1, 1) := by decide +kernel
theorem dX6_set_1 : decode cX6_set 1 = .ok (.i2l, 1) := by decide +kernel
theorem dX6_set_2 : decode cX6_set 2 = .ok (.lconst 0, 1) := by decide +kernel
theorem dX6_set_3 : decode cX6_set 3 = .ok (.ldc2_w 144, 3) := by decide +kernel
theorem dX6_set_6 : decode cX6_set 6 = .ok (.invokestatic 57, 3) := by decide +kernel
theorem dX6_set_9 : decode cX6_set 9 = .ok (.ifCond .eq 37, 3) := by decide +kernel
theorem dX6_set_12 : decode cX6_set 12 = .ok (.iload_n 2, 1) := by decide +kernel
theorem dX6_set_13 : decode cX6_set 13 = .ok (.i2l, 1) := by decide +kernel
theorem dX6_set_14 : decode cX6_set 14 = .ok (.lconst 0, 1) := by decide +kernel
theorem dX6_set_15 : decode cX6_set 15 = .ok (.iload_n 1, 1) := by decide +kernel
theorem dX6_set_16 : decode cX6_set 16 = .ok (.iconst 3, 1) := by decide +kernel
theorem dX6_set_17 : decode cX6_set 17 = .ok (.if_icmp .ne 9, 3) := by decide +kernel
theorem dX6_set_20 : decode cX6_set 20 = .ok (.ldc2_w 146, 3) := by decide +kernel
theorem dX6_set_23 : decode cX6_set 23 = .ok (.goto 6, 3) := by decide +kernel
theorem dX6_set_26 : decode cX6_set 26 = .ok (.ldc2_w 148, 3) := by decide +kernel
theorem dX6_set_29 : decode cX6_set 29 = .ok (.invokestatic 57, 3) := by decide +kernel
theorem dX6_set_32 : decode cX6_set 32 = .ok (.ifCond .eq 14, 3) := by decide +kernel
theorem dX6_set_35 : decode cX6_set 35 = .ok (.aload_n 0, 1) := by decide +kernel
theorem dX6_set_36 : decode cX6_set 36 = .ok (.iconst 4, 1) := by decide +kernel
theorem dX6_set_37 : decode cX6_set 37 = .ok (.iload_n 1, 1) := by decide +kernel
theorem dX6_set_38 : decode cX6_set 38 = .ok (.iadd, 1) := by decide +kernel
theorem dX6_set_39 : decode cX6_set 39 = .ok (.iload_n 2, 1) := by decide +kernel
theorem dX6_set_40 : decode cX6_set 40 = .ok (.invokevirtual 150, 3) := by decide +kernel
theorem dX6_set_43 : decode cX6_set 43 = .ok (.goto 4, 3) := by decide +kernel
theorem dX6_set_46 : decode cX6_set 46 = .ok (.iconst (-1), 1) := by decide +kernel
theorem dX6_set_47 : decode cX6_set 47 = .ok (.ireturn, 1) := by decide +kernel
set_option maxHeartbeats 400000 in
set_option maxRecDepth 20000 in
theorem t_X6_set (l : Launch) (ad : Nat → Nat) (D : va_G) (cs : Nat → ClassId) (h : Nat → Nat) (σ : Nat → Nat → Int32) (pre post : va_W) (n : Nat) (a v : Int32) (hN : σ 0 0 = nI n) (hn : n ≤ 8) : CTi l yX6_set cX6_set 3 .int ({ frames := 1, cells := 0, slots := 0, locals := 25 }) ad D (tysW cs) (pre ++ (wM cs h σ ++ post)) [.ref (h 0), .int a, .int v] (gateI (inB a 0 3 && inB v 0 (if a = 3 then 99 else 9)) (σ 0 (4 + a.toNatClampNeg)) (-1)) (pre ++ (wM cs h (su σ 0 (gateF (inB a 0 3 && inB v 0 (if a = 3 then 99 else 9)) (upd (σ 0) (4 + a.toNatClampNeg) v) (σ 0))) ++ post)) := by
  refine CTi.of (lv0 := [(0, .ref (h 0)), (1, .int a), (2, .int v)]) (by decide) rfl (Nat.le_of_ble_eq_true rfl) (fun p e s m args below meth c A C hr hlk => ?_)
  have C : Cx p s m args c cX6_set 3 RX6 ad D (tysW cs) A := C
  refine r_iload_n (pc := 0) C 1 dX6_set_0 rfl rfl ?_
  refine r_i2l (pc := 1) C dX6_set_1 ?_
  refine r_lconst (pc := 2) C 0 dX6_set_2 (by decide) ?_
  refine r_ldc2 (pc := 3) C dX6_set_3 cn_RX6_144 ?_
  refine rc_Si (pc := 6) C (t_X6_isIn l ad D (tysW cs) (wM cs h σ) pre post  a (0 : Int32) (3 : Int32) ) ms_X6_isIn ml_RX6_57 rfl ⟨Nat.le_of_ble_eq_true rfl, Nat.le_of_ble_eq_true rfl⟩ ⟨rfl, rfl⟩ rfl rfl rfl (Nat.le_of_ble_eq_true rfl) dX6_set_6 ?_
  refine r_if_eq (pc := 9) C 46 dX6_set_9 (by decide) (fun c_1 => ?_) (fun c_1 => ?_)
  · skip
    have c_1 := bI_0.mp c_1
    refine r_iconst (pc := 46) C (-1) dX6_set_46 (by decide) ?_
    exact r_iret (pc := 47) C hr hlk dX6_set_47 rfl (by first | rfl | (simp [gateI, gateF, *]; done) | simp_all [gateI, gateF]) (by rw [show (gateF (inB a 0 3 && inB v 0 (if a = 3 then 99 else 9)) (upd (σ 0) (4 + a.toNatClampNeg) v) (σ 0) : Nat → Int32) = σ 0 from (by first | rfl | (simp [gateI, gateF, *]; done) | simp_all [gateI, gateF])]; first | rfl | done)
  · skip
    have c_1 := bI_n.mp c_1
    obtain ⟨t, l_t, h_t, rfl⟩ := rng_nat 0 3 (by decide) (by decide) c_1
    have e_t : (nI t).toNatClampNeg = t := nI_clamp (by omega)
    refine r_iload_n (pc := 12) C 2 dX6_set_12 rfl rfl ?_
    refine r_i2l (pc := 13) C dX6_set_13 ?_
    refine r_lconst (pc := 14) C 0 dX6_set_14 (by decide) ?_
    refine r_iload_n (pc := 15) C 1 dX6_set_15 rfl rfl ?_
    refine r_iconst (pc := 16) C 3 dX6_set_16 (by decide) ?_
    refine r_icmp_ne (pc := 17) C 26 dX6_set_17 (by decide) (fun c_2 => ?_) (fun c_2 => ?_)
    · skip
      have c_2 := nIc_ne_t (a := t) (b := 3) (by omega) (by omega) c_2
      refine r_ldc2 (pc := 26) C dX6_set_26 cn_RX6_148 ?_
      refine rc_Si (pc := 29) C (t_X6_isIn l ad D (tysW cs) (wM cs h σ) pre post  v (0 : Int32) (9 : Int32) ) ms_X6_isIn ml_RX6_57 rfl ⟨Nat.le_of_ble_eq_true rfl, Nat.le_of_ble_eq_true rfl⟩ ⟨rfl, rfl⟩ rfl rfl rfl (Nat.le_of_ble_eq_true rfl) dX6_set_29 ?_
      refine r_if_eq (pc := 32) C 46 dX6_set_32 (by decide) (fun c_3 => ?_) (fun c_3 => ?_)
      · skip
        have c_3 := bI_0.mp c_3
        refine r_iconst (pc := 46) C (-1) dX6_set_46 (by decide) ?_
        exact r_iret (pc := 47) C hr hlk dX6_set_47 rfl (by first | rfl | (simp [gateI, gateF, *]; done) | simp_all [gateI, gateF]) (by rw [show (gateF (inB (nI t) 0 3 && inB v 0 (if (nI t) = 3 then 99 else 9)) (upd (σ 0) (4 + (nI t).toNatClampNeg) v) (σ 0) : Nat → Int32) = σ 0 from (by first | rfl | (simp [gateI, gateF, *]; done) | simp_all [gateI, gateF])]; first | rfl | done)
      · skip
        have c_3 := bI_n.mp c_3
        refine r_aload_n (pc := 35) C 0 dX6_set_35 rfl rfl ?_
        refine r_iconst (pc := 36) C 4 dX6_set_36 (by decide) ?_
        refine r_iload_n (pc := 37) C 1 dX6_set_37 rfl rfl ?_
        refine r_iadd (pc := 38) C dX6_set_38 ?_
        refine r_eqi (y := nI (4 + t)) (nI_add 4 t) ?_
        refine r_iload_n (pc := 39) C 2 dX6_set_39 rfl rfl ?_
        refine rc_Vi (pc := 40) C (t_X6_becomes' l ad D cs h σ pre post (σ 0) (rfl) (4 + t) v (by omega)) mv_X6_becomes ml_RX6_150 rfl ⟨Nat.le_of_ble_eq_true rfl, Nat.le_of_ble_eq_true rfl⟩ ⟨rfl, rfl⟩ (q0 := 0) rfl rfl rfl rfl rfl rfl (Nat.le_of_ble_eq_true rfl) dX6_set_40 ?_
        refine r_goto (pc := 43) C 47 dX6_set_43 (by decide) ?_
        exact r_iret (pc := 47) C hr hlk dX6_set_47 rfl (by first | rfl | (simp [gateI, gateF, *]; done) | simp_all [gateI, gateF]) (by rw [show (gateF (inB (nI t) 0 3 && inB v 0 (if (nI t) = 3 then 99 else 9)) (upd (σ 0) (4 + (nI t).toNatClampNeg) v) (σ 0) : Nat → Int32) = upd (σ 0) (4 + t) v from (by first | rfl | (simp [gateI, gateF, *]; done) | simp_all [gateI, gateF])]; first | rfl | done)
    · skip
      have c_2 := nIc_ne_f (a := t) (b := 3) (by omega) (by omega) c_2
      refine r_ldc2 (pc := 20) C dX6_set_20 cn_RX6_146 ?_
      refine r_goto (pc := 23) C 29 dX6_set_23 (by decide) ?_
      refine rc_Si (pc := 29) C (t_X6_isIn l ad D (tysW cs) (wM cs h σ) pre post  v (0 : Int32) (99 : Int32) ) ms_X6_isIn ml_RX6_57 rfl ⟨Nat.le_of_ble_eq_true rfl, Nat.le_of_ble_eq_true rfl⟩ ⟨rfl, rfl⟩ rfl rfl rfl (Nat.le_of_ble_eq_true rfl) dX6_set_29 ?_
      refine r_if_eq (pc := 32) C 46 dX6_set_32 (by decide) (fun c_4 => ?_) (fun c_4 => ?_)
      · skip
        have c_4 := bI_0.mp c_4
        refine r_iconst (pc := 46) C (-1) dX6_set_46 (by decide) ?_
        exact r_iret (pc := 47) C hr hlk dX6_set_47 rfl (by first | rfl | (simp [gateI, gateF, *]; done) | simp_all [gateI, gateF]) (by rw [show (gateF (inB (nI t) 0 3 && inB v 0 (if (nI t) = 3 then 99 else 9)) (upd (σ 0) (4 + (nI t).toNatClampNeg) v) (σ 0) : Nat → Int32) = σ 0 from (by first | rfl | (simp [gateI, gateF, *]; done) | simp_all [gateI, gateF])]; first | rfl | done)
      · skip
        have c_4 := bI_n.mp c_4
        refine r_aload_n (pc := 35) C 0 dX6_set_35 rfl rfl ?_
        refine r_iconst (pc := 36) C 4 dX6_set_36 (by decide) ?_
        refine r_iload_n (pc := 37) C 1 dX6_set_37 rfl rfl ?_
        refine r_iadd (pc := 38) C dX6_set_38 ?_
        refine r_eqi (y := nI (4 + t)) (nI_add 4 t) ?_
        refine r_iload_n (pc := 39) C 2 dX6_set_39 rfl rfl ?_
        refine rc_Vi (pc := 40) C (t_X6_becomes' l ad D cs h σ pre post (σ 0) (rfl) (4 + t) v (by omega)) mv_X6_becomes ml_RX6_150 rfl ⟨Nat.le_of_ble_eq_true rfl, Nat.le_of_ble_eq_true rfl⟩ ⟨rfl, rfl⟩ (q0 := 0) rfl rfl rfl rfl rfl rfl (Nat.le_of_ble_eq_true rfl) dX6_set_40 ?_
        refine r_goto (pc := 43) C 47 dX6_set_43 (by decide) ?_
        exact r_iret (pc := 47) C hr hlk dX6_set_47 rfl (by first | rfl | (simp [gateI, gateF, *]; done) | simp_all [gateI, gateF]) (by rw [show (gateF (inB (nI t) 0 3 && inB v 0 (if (nI t) = 3 then 99 else 9)) (upd (σ 0) (4 + (nI t).toNatClampNeg) v) (σ 0) : Nat → Int32) = upd (σ 0) (4 + t) v from (by first | rfl | (simp [gateI, gateF, *]; done) | simp_all [gateI, gateF])]; first | rfl | done)
theorem t_X6_set' (l : Launch) (ad : Nat → Nat) (D : va_G) (cs : Nat → ClassId) (h : Nat → Nat) (σ : Nat → Nat → Int32) (pre post : va_W) (f0_ : Nat → Int32) (e0_ : σ 0 = f0_) (n : Nat) (a v : Int32) (hN : f0_ 0 = nI n) (hn : n ≤ 8) : CTi l yX6_set cX6_set 3 .int ({ frames := 1, cells := 0, slots := 0, locals := 25 }) ad D (tysW cs) (pre ++ (wM cs h σ ++ post)) [.ref (h 0), .int a, .int v] (gateI (inB a 0 3 && inB v 0 (if a = 3 then 99 else 9)) (f0_ (4 + a.toNatClampNeg)) (-1)) (pre ++ (wM cs h (su σ 0 (gateF (inB a 0 3 && inB v 0 (if a = 3 then 99 else 9)) (upd f0_ (4 + a.toNatClampNeg) v) f0_)) ++ post)) := by
  subst e0_
  exact t_X6_set l ad D cs h σ pre post n a v hN hn
theorem dX6_lawOf_0 : decode cX6_lawOf 0 = .ok (.iload_n 1, 1) := by decide +kernel
theorem dX6_lawOf_1 : decode cX6_lawOf 1 = .ok (.i2l, 1) := by decide +kernel
theorem dX6_lawOf_2 : decode cX6_lawOf 2 = .ok (.lconst 0, 1) := by decide +kernel
theorem dX6_lawOf_3 : decode cX6_lawOf 3 = .ok (.ldc2_w 144, 3) := by decide +kernel
theorem dX6_lawOf_6 : decode cX6_lawOf 6 = .ok (.invokestatic 57, 3) := by decide +kernel
theorem dX6_lawOf_9 : decode cX6_lawOf 9 = .ok (.ifCond .eq 14, 3) := by decide +kernel
theorem dX6_lawOf_12 : decode cX6_lawOf 12 = .ok (.aload_n 0, 1) := by decide +kernel
theorem dX6_lawOf_13 : decode cX6_lawOf 13 = .ok (.getfield 7, 3) := by decide +kernel
theorem dX6_lawOf_16 : decode cX6_lawOf 16 = .ok (.iconst 4, 1) := by decide +kernel
theorem dX6_lawOf_17 : decode cX6_lawOf 17 = .ok (.iload_n 1, 1) := by decide +kernel
theorem dX6_lawOf_18 : decode cX6_lawOf 18 = .ok (.iadd, 1) := by decide +kernel
theorem dX6_lawOf_19 : decode cX6_lawOf 19 = .ok (.iaload, 1) := by decide +kernel
theorem dX6_lawOf_20 : decode cX6_lawOf 20 = .ok (.goto 4, 3) := by decide +kernel
theorem dX6_lawOf_23 : decode cX6_lawOf 23 = .ok (.iconst (-1), 1) := by decide +kernel
theorem dX6_lawOf_24 : decode cX6_lawOf 24 = .ok (.ireturn, 1) := by decide +kernel
set_option maxHeartbeats 400000 in
set_option maxRecDepth 20000 in
theorem t_X6_lawOf (l : Launch) (ad : Nat → Nat) (D : va_G) (cs : Nat → ClassId) (h : Nat → Nat) (σ : Nat → Nat → Int32) (pre post : va_W) (n : Nat) (a : Int32) (hN : σ 0 0 = nI n) (hn : n ≤ 8) : CTi l yX6_lawOf cX6_lawOf 2 .int ({ frames := 1, cells := 0, slots := 0, locals := 25 }) ad D (tysW cs) (pre ++ (wM cs h σ ++ post)) [.ref (h 0), .int a] (gateI (inB a 0 3) (σ 0 (4 + a.toNatClampNeg)) (-1)) (pre ++ (wM cs h σ ++ post)) := by
  refine CTi.of (lv0 := [(0, .ref (h 0)), (1, .int a)]) (by decide) rfl (Nat.le_of_ble_eq_true rfl) (fun p e s m args below meth c A C hr hlk => ?_)
  have C : Cx p s m args c cX6_lawOf 2 RX6 ad D (tysW cs) A := C
  refine r_iload_n (pc := 0) C 1 dX6_lawOf_0 rfl rfl ?_
  refine r_i2l (pc := 1) C dX6_lawOf_1 ?_
  refine r_lconst (pc := 2) C 0 dX6_lawOf_2 (by decide) ?_
  refine r_ldc2 (pc := 3) C dX6_lawOf_3 cn_RX6_144 ?_
  refine rc_Si (pc := 6) C (t_X6_isIn l ad D (tysW cs) (wM cs h σ) pre post  a (0 : Int32) (3 : Int32) ) ms_X6_isIn ml_RX6_57 rfl ⟨Nat.le_of_ble_eq_true rfl, Nat.le_of_ble_eq_true rfl⟩ ⟨rfl, rfl⟩ rfl rfl rfl (Nat.le_of_ble_eq_true rfl) dX6_lawOf_6 ?_
  refine r_if_eq (pc := 9) C 23 dX6_lawOf_9 (by decide) (fun c_1 => ?_) (fun c_1 => ?_)
  · skip
    have c_1 := bI_0.mp c_1
    refine r_iconst (pc := 23) C (-1) dX6_lawOf_23 (by decide) ?_
    exact r_iret (pc := 24) C hr hlk dX6_lawOf_24 rfl (by first | rfl | (simp [gateI, gateF, *]; done) | simp_all [gateI, gateF]) rfl
  · skip
    have c_1 := bI_n.mp c_1
    obtain ⟨t, l_t, h_t, rfl⟩ := rng_nat 0 3 (by decide) (by decide) c_1
    have e_t : (nI t).toNatClampNeg = t := nI_clamp (by omega)
    refine r_aload_n (pc := 12) C 0 dX6_lawOf_12 rfl rfl ?_
    refine mg_s (pc := 13) C fl_RX6_7 dX6_lawOf_13 ?_
    refine r_iconst (pc := 16) C 4 dX6_lawOf_16 (by decide) ?_
    refine r_iload_n (pc := 17) C 1 dX6_lawOf_17 rfl rfl ?_
    refine r_iadd (pc := 18) C dX6_lawOf_18 ?_
    refine r_eqi (y := nI (4 + t)) (nI_add 4 t) ?_
    refine al_s (pc := 19) C (4 + t) (rfl) (by omega) dX6_lawOf_19 (σ 0 (4 + t)) rfl ?_
    refine r_goto (pc := 20) C 24 dX6_lawOf_20 (by decide) ?_
    exact r_iret (pc := 24) C hr hlk dX6_lawOf_24 rfl (by first | rfl | (simp [gateI, gateF, *]; done) | simp_all [gateI, gateF]) rfl
theorem t_X6_lawOf' (l : Launch) (ad : Nat → Nat) (D : va_G) (cs : Nat → ClassId) (h : Nat → Nat) (σ : Nat → Nat → Int32) (pre post : va_W) (f0_ : Nat → Int32) (e0_ : σ 0 = f0_) (n : Nat) (a : Int32) (hN : f0_ 0 = nI n) (hn : n ≤ 8) : CTi l yX6_lawOf cX6_lawOf 2 .int ({ frames := 1, cells := 0, slots := 0, locals := 25 }) ad D (tysW cs) (pre ++ (wM cs h σ ++ post)) [.ref (h 0), .int a] (gateI (inB a 0 3) (f0_ (4 + a.toNatClampNeg)) (-1)) (pre ++ (wM cs h σ ++ post)) := by
  subst e0_
  exact t_X6_lawOf l ad D cs h σ pre post n a hN hn
theorem dX6_person_0 : decode cX6_person 0 = .ok (.iload_n 1, 1) := by decide +kernel
theorem dX6_person_1 : decode cX6_person 1 = .ok (.i2l, 1) := by decide +kernel
theorem dX6_person_2 : decode cX6_person 2 = .ok (.lconst 0, 1) := by decide +kernel
theorem dX6_person_3 : decode cX6_person 3 = .ok (.ldc2_w 154, 3) := by decide +kernel
theorem dX6_person_6 : decode cX6_person 6 = .ok (.invokestatic 57, 3) := by decide +kernel
theorem dX6_person_9 : decode cX6_person 9 = .ok (.ifCond .eq 40, 3) := by decide +kernel
theorem dX6_person_12 : decode cX6_person 12 = .ok (.iload_n 2, 1) := by decide +kernel
theorem dX6_person_13 : decode cX6_person 13 = .ok (.i2l, 1) := by decide +kernel
theorem dX6_person_14 : decode cX6_person 14 = .ok (.lconst 0, 1) := by decide +kernel
theorem dX6_person_15 : decode cX6_person 15 = .ok (.ldc2_w 146, 3) := by decide +kernel
theorem dX6_person_18 : decode cX6_person 18 = .ok (.invokestatic 57, 3) := by decide +kernel
theorem dX6_person_21 : decode cX6_person 21 = .ok (.ifCond .eq 28, 3) := by decide +kernel
theorem dX6_person_24 : decode cX6_person 24 = .ok (.iload_n 3, 1) := by decide +kernel
theorem dX6_person_25 : decode cX6_person 25 = .ok (.i2l, 1) := by decide +kernel
theorem dX6_person_26 : decode cX6_person 26 = .ok (.lconst 0, 1) := by decide +kernel
theorem dX6_person_27 : decode cX6_person 27 = .ok (.ldc2_w 146, 3) := by decide +kernel
theorem dX6_person_30 : decode cX6_person 30 = .ok (.invokestatic 57, 3) := by decide +kernel
theorem dX6_person_33 : decode cX6_person 33 = .ok (.ifCond .eq 16, 3) := by decide +kernel
theorem dX6_person_36 : decode cX6_person 36 = .ok (.iload 4, 2) := by decide +kernel
theorem dX6_person_38 : decode cX6_person 38 = .ok (.i2l, 1) := by decide +kernel
theorem dX6_person_39 : decode cX6_person 39 = .ok (.lconst 0, 1) := by decide +kernel
theorem dX6_person_40 : decode cX6_person 40 = .ok (.ldc2_w 146, 3) := by decide +kernel
theorem dX6_person_43 : decode cX6_person 43 = .ok (.invokestatic 57, 3) := by decide +kernel
theorem dX6_person_46 : decode cX6_person 46 = .ok (.ifCond .ne 5, 3) := by decide +kernel
theorem dX6_person_49 : decode cX6_person 49 = .ok (.iconst (-1), 1) := by decide +kernel
theorem dX6_person_50 : decode cX6_person 50 = .ok (.ireturn, 1) := by decide +kernel
theorem dX6_person_51 : decode cX6_person 51 = .ok (.aload_n 0, 1) := by decide +kernel
theorem dX6_person_52 : decode cX6_person 52 = .ok (.getfield 7, 3) := by decide +kernel
theorem dX6_person_55 : decode cX6_person 55 = .ok (.iconst 0, 1) := by decide +kernel
theorem dX6_person_56 : decode cX6_person 56 = .ok (.iaload, 1) := by decide +kernel
theorem dX6_person_57 : decode cX6_person 57 = .ok (.bipush 8, 2) := by decide +kernel
theorem dX6_person_59 : decode cX6_person 59 = .ok (.if_icmp .ne 6, 3) := by decide +kernel
theorem dX6_person_62 : decode cX6_person 62 = .ok (.bipush (-2), 2) := by decide +kernel
theorem dX6_person_64 : decode cX6_person 64 = .ok (.ireturn, 1) := by decide +kernel
theorem dX6_person_65 : decode cX6_person 65 = .ok (.bipush 8, 2) := by decide +kernel
theorem dX6_person_67 : decode cX6_person 67 = .ok (.iconst 5, 1) := by decide +kernel
theorem dX6_person_68 : decode cX6_person 68 = .ok (.aload_n 0, 1) := by decide +kernel
theorem dX6_person_69 : decode cX6_person 69 = .ok (.getfield 7, 3) := by decide +kernel
theorem dX6_person_72 : decode cX6_person 72 = .ok (.iconst 0, 1) := by decide +kernel
theorem dX6_person_73 : decode cX6_person 73 = .ok (.iaload, 1) := by decide +kernel
theorem dX6_person_74 : decode cX6_person 74 = .ok (.imul, 1) := by decide +kernel
theorem dX6_person_75 : decode cX6_person 75 = .ok (.iadd, 1) := by decide +kernel
theorem dX6_person_76 : decode cX6_person 76 = .ok (.istore 5, 2) := by decide +kernel
theorem dX6_person_78 : decode cX6_person 78 = .ok (.aload_n 0, 1) := by decide +kernel
theorem dX6_person_79 : decode cX6_person 79 = .ok (.getfield 7, 3) := by decide +kernel
theorem dX6_person_82 : decode cX6_person 82 = .ok (.iload 5, 2) := by decide +kernel
theorem dX6_person_84 : decode cX6_person 84 = .ok (.iload_n 1, 1) := by decide +kernel
theorem dX6_person_85 : decode cX6_person 85 = .ok (.iastore, 1) := by decide +kernel
theorem dX6_person_86 : decode cX6_person 86 = .ok (.aload_n 0, 1) := by decide +kernel
theorem dX6_person_87 : decode cX6_person 87 = .ok (.getfield 7, 3) := by decide +kernel
theorem dX6_person_90 : decode cX6_person 90 = .ok (.iload 5, 2) := by decide +kernel
theorem dX6_person_92 : decode cX6_person 92 = .ok (.iconst 1, 1) := by decide +kernel
theorem dX6_person_93 : decode cX6_person 93 = .ok (.iadd, 1) := by decide +kernel
theorem dX6_person_94 : decode cX6_person 94 = .ok (.iload_n 2, 1) := by decide +kernel
theorem dX6_person_95 : decode cX6_person 95 = .ok (.iastore, 1) := by decide +kernel
theorem dX6_person_96 : decode cX6_person 96 = .ok (.aload_n 0, 1) := by decide +kernel
theorem dX6_person_97 : decode cX6_person 97 = .ok (.getfield 7, 3) := by decide +kernel
theorem dX6_person_100 : decode cX6_person 100 = .ok (.iload 5, 2) := by decide +kernel
theorem dX6_person_102 : decode cX6_person 102 = .ok (.iconst 2, 1) := by decide +kernel
theorem dX6_person_103 : decode cX6_person 103 = .ok (.iadd, 1) := by decide +kernel
theorem dX6_person_104 : decode cX6_person 104 = .ok (.iload_n 3, 1) := by decide +kernel
theorem dX6_person_105 : decode cX6_person 105 = .ok (.iastore, 1) := by decide +kernel
theorem dX6_person_106 : decode cX6_person 106 = .ok (.aload_n 0, 1) := by decide +kernel
theorem dX6_person_107 : decode cX6_person 107 = .ok (.getfield 7, 3) := by decide +kernel
theorem dX6_person_110 : decode cX6_person 110 = .ok (.iload 5, 2) := by decide +kernel
theorem dX6_person_112 : decode cX6_person 112 = .ok (.iconst 3, 1) := by decide +kernel
theorem dX6_person_113 : decode cX6_person 113 = .ok (.iadd, 1) := by decide +kernel
theorem dX6_person_114 : decode cX6_person 114 = .ok (.iload 4, 2) := by decide +kernel
theorem dX6_person_116 : decode cX6_person 116 = .ok (.iastore, 1) := by decide +kernel
theorem dX6_person_117 : decode cX6_person 117 = .ok (.aload_n 0, 1) := by decide +kernel
theorem dX6_person_118 : decode cX6_person 118 = .ok (.getfield 7, 3) := by decide +kernel
theorem dX6_person_121 : decode cX6_person 121 = .ok (.iload 5, 2) := by decide +kernel
theorem dX6_person_123 : decode cX6_person 123 = .ok (.iconst 4, 1) := by decide +kernel
theorem dX6_person_124 : decode cX6_person 124 = .ok (.iadd, 1) := by decide +kernel
theorem dX6_person_125 : decode cX6_person 125 = .ok (.bipush 50, 2) := by decide +kernel
theorem dX6_person_127 : decode cX6_person 127 = .ok (.iastore, 1) := by decide +kernel
theorem dX6_person_128 : decode cX6_person 128 = .ok (.aload_n 0, 1) := by decide +kernel
theorem dX6_person_129 : decode cX6_person 129 = .ok (.getfield 7, 3) := by decide +kernel
theorem dX6_person_132 : decode cX6_person 132 = .ok (.iconst 0, 1) := by decide +kernel
theorem dX6_person_133 : decode cX6_person 133 = .ok (.dup2, 1) := by decide +kernel
theorem dX6_person_134 : decode cX6_person 134 = .ok (.iaload, 1) := by decide +kernel
theorem dX6_person_135 : decode cX6_person 135 = .ok (.iconst 1, 1) := by decide +kernel
theorem dX6_person_136 : decode cX6_person 136 = .ok (.iadd, 1) := by decide +kernel
theorem dX6_person_137 : decode cX6_person 137 = .ok (.iastore, 1) := by decide +kernel
theorem dX6_person_138 : decode cX6_person 138 = .ok (.aload_n 0, 1) := by decide +kernel
theorem dX6_person_139 : decode cX6_person 139 = .ok (.getfield 7, 3) := by decide +kernel
theorem dX6_person_142 : decode cX6_person 142 = .ok (.iconst 0, 1) := by decide +kernel
theorem dX6_person_143 : decode cX6_person 143 = .ok (.iaload, 1) := by decide +kernel
theorem dX6_person_144 : decode cX6_person 144 = .ok (.iconst 1, 1) := by decide +kernel
theorem dX6_person_145 : decode cX6_person 145 = .ok (.isub, 1) := by decide +kernel
theorem dX6_person_146 : decode cX6_person 146 = .ok (.ireturn, 1) := by decide +kernel
set_option maxHeartbeats 400000 in
set_option maxRecDepth 20000 in
theorem t_X6_person (l : Launch) (ad : Nat → Nat) (D : va_G) (cs : Nat → ClassId) (h : Nat → Nat) (σ : Nat → Nat → Int32) (pre post : va_W) (n : Nat) (k t w x : Int32) (hN : σ 0 0 = nI n) (hn : n ≤ 8) : CTi l yX6_person cX6_person 6 .int ({ frames := 1, cells := 0, slots := 0, locals := 25 }) ad D (tysW cs) (pre ++ (wM cs h σ ++ post)) [.ref (h 0), .int k, .int t, .int w, .int x] (gateI (inB k 0 5 && (inB t 0 99 && (inB w 0 99 && inB x 0 99))) (if n = 8 then -2 else nI n) (-1)) (pre ++ (wM cs h (su σ 0 (gateF ((inB k 0 5 && (inB t 0 99 && (inB w 0 99 && inB x 0 99))) && !(decide (n = 8))) (perF n (σ 0) k t w x) (σ 0))) ++ post)) := by
  refine CTi.of (lv0 := [(0, .ref (h 0)), (1, .int k), (2, .int t), (3, .int w), (4, .int x)]) (by decide) rfl (Nat.le_of_ble_eq_true rfl) (fun p e s m args below meth c A C hr hlk => ?_)
  have C : Cx p s m args c cX6_person 6 RX6 ad D (tysW cs) A := C
  refine r_iload_n (pc := 0) C 1 dX6_person_0 rfl rfl ?_
  refine r_i2l (pc := 1) C dX6_person_1 ?_
  refine r_lconst (pc := 2) C 0 dX6_person_2 (by decide) ?_
  refine r_ldc2 (pc := 3) C dX6_person_3 cn_RX6_154 ?_
  refine rc_Si (pc := 6) C (t_X6_isIn l ad D (tysW cs) (wM cs h σ) pre post  k (0 : Int32) (5 : Int32) ) ms_X6_isIn ml_RX6_57 rfl ⟨Nat.le_of_ble_eq_true rfl, Nat.le_of_ble_eq_true rfl⟩ ⟨rfl, rfl⟩ rfl rfl rfl (Nat.le_of_ble_eq_true rfl) dX6_person_6 ?_
  refine r_if_eq (pc := 9) C 49 dX6_person_9 (by decide) (fun c_1 => ?_) (fun c_1 => ?_)
  · skip
    have c_1 := bI_0.mp c_1
    refine r_iconst (pc := 49) C (-1) dX6_person_49 (by decide) ?_
    exact r_iret (pc := 50) C hr hlk dX6_person_50 rfl (by first | rfl | (simp [gateI, gateF, perF, *]; done) | simp_all [gateI, gateF, perF]) (by rw [show (gateF ((inB k 0 5 && (inB t 0 99 && (inB w 0 99 && inB x 0 99))) && !(decide (n = 8))) (perF n (σ 0) k t w x) (σ 0) : Nat → Int32) = σ 0 from (by first | rfl | (simp [gateI, gateF, perF, *]; done) | simp_all [gateI, gateF, perF])]; first | rfl | done)
  · skip
    have c_1 := bI_n.mp c_1
    refine r_iload_n (pc := 12) C 2 dX6_person_12 rfl rfl ?_
    refine r_i2l (pc := 13) C dX6_person_13 ?_
    refine r_lconst (pc := 14) C 0 dX6_person_14 (by decide) ?_
    refine r_ldc2 (pc := 15) C dX6_person_15 cn_RX6_146 ?_
    refine rc_Si (pc := 18) C (t_X6_isIn l ad D (tysW cs) (wM cs h σ) pre post  t (0 : Int32) (99 : Int32) ) ms_X6_isIn ml_RX6_57 rfl ⟨Nat.le_of_ble_eq_true rfl, Nat.le_of_ble_eq_true rfl⟩ ⟨rfl, rfl⟩ rfl rfl rfl (Nat.le_of_ble_eq_true rfl) dX6_person_18 ?_
    refine r_if_eq (pc := 21) C 49 dX6_person_21 (by decide) (fun c_2 => ?_) (fun c_2 => ?_)
    · skip
      have c_2 := bI_0.mp c_2
      refine r_iconst (pc := 49) C (-1) dX6_person_49 (by decide) ?_
      exact r_iret (pc := 50) C hr hlk dX6_person_50 rfl (by first | rfl | (simp [gateI, gateF, perF, *]; done) | simp_all [gateI, gateF, perF]) (by rw [show (gateF ((inB k 0 5 && (inB t 0 99 && (inB w 0 99 && inB x 0 99))) && !(decide (n = 8))) (perF n (σ 0) k t w x) (σ 0) : Nat → Int32) = σ 0 from (by first | rfl | (simp [gateI, gateF, perF, *]; done) | simp_all [gateI, gateF, perF])]; first | rfl | done)
    · skip
      have c_2 := bI_n.mp c_2
      refine r_iload_n (pc := 24) C 3 dX6_person_24 rfl rfl ?_
      refine r_i2l (pc := 25) C dX6_person_25 ?_
      refine r_lconst (pc := 26) C 0 dX6_person_26 (by decide) ?_
      refine r_ldc2 (pc := 27) C dX6_person_27 cn_RX6_146 ?_
      refine rc_Si (pc := 30) C (t_X6_isIn l ad D (tysW cs) (wM cs h σ) pre post  w (0 : Int32) (99 : Int32) ) ms_X6_isIn ml_RX6_57 rfl ⟨Nat.le_of_ble_eq_true rfl, Nat.le_of_ble_eq_true rfl⟩ ⟨rfl, rfl⟩ rfl rfl rfl (Nat.le_of_ble_eq_true rfl) dX6_person_30 ?_
      refine r_if_eq (pc := 33) C 49 dX6_person_33 (by decide) (fun c_3 => ?_) (fun c_3 => ?_)
      · skip
        have c_3 := bI_0.mp c_3
        refine r_iconst (pc := 49) C (-1) dX6_person_49 (by decide) ?_
        exact r_iret (pc := 50) C hr hlk dX6_person_50 rfl (by first | rfl | (simp [gateI, gateF, perF, *]; done) | simp_all [gateI, gateF, perF]) (by rw [show (gateF ((inB k 0 5 && (inB t 0 99 && (inB w 0 99 && inB x 0 99))) && !(decide (n = 8))) (perF n (σ 0) k t w x) (σ 0) : Nat → Int32) = σ 0 from (by first | rfl | (simp [gateI, gateF, perF, *]; done) | simp_all [gateI, gateF, perF])]; first | rfl | done)
      · skip
        have c_3 := bI_n.mp c_3
        refine r_iload (pc := 36) C 4 dX6_person_36 rfl ?_
        refine r_i2l (pc := 38) C dX6_person_38 ?_
        refine r_lconst (pc := 39) C 0 dX6_person_39 (by decide) ?_
        refine r_ldc2 (pc := 40) C dX6_person_40 cn_RX6_146 ?_
        refine rc_Si (pc := 43) C (t_X6_isIn l ad D (tysW cs) (wM cs h σ) pre post  x (0 : Int32) (99 : Int32) ) ms_X6_isIn ml_RX6_57 rfl ⟨Nat.le_of_ble_eq_true rfl, Nat.le_of_ble_eq_true rfl⟩ ⟨rfl, rfl⟩ rfl rfl rfl (Nat.le_of_ble_eq_true rfl) dX6_person_43 ?_
        refine r_if_ne (pc := 46) C 51 dX6_person_46 (by decide) (fun c_4 => ?_) (fun c_4 => ?_)
        · skip
          have c_4 := bI_n.mp c_4
          refine r_aload_n (pc := 51) C 0 dX6_person_51 rfl rfl ?_
          refine mg_s (pc := 52) C fl_RX6_7 dX6_person_52 ?_
          refine r_iconst (pc := 55) C 0 dX6_person_55 (by decide) ?_
          refine al_s (pc := 56) C 0 (rfl) (by omega) dX6_person_56 (σ 0 0) rfl ?_
          refine r_eqi (y := nI n) (hN) ?_
          refine r_bipush (pc := 57) C 8 dX6_person_57 (by decide) ?_
          refine r_icmp_ne (pc := 59) C 65 dX6_person_59 (by decide) (fun c_5 => ?_) (fun c_5 => ?_)
          · skip
            have c_5 := nIc_ne_t (a := n) (b := 8) (by omega) (by omega) c_5
            refine r_bipush (pc := 65) C 8 dX6_person_65 (by decide) ?_
            refine r_iconst (pc := 67) C 5 dX6_person_67 (by decide) ?_
            refine r_aload_n (pc := 68) C 0 dX6_person_68 rfl rfl ?_
            refine mg_s (pc := 69) C fl_RX6_7 dX6_person_69 ?_
            refine r_iconst (pc := 72) C 0 dX6_person_72 (by decide) ?_
            refine al_s (pc := 73) C 0 (rfl) (by omega) dX6_person_73 (σ 0 0) rfl ?_
            refine r_eqi (y := nI n) (hN) ?_
            refine r_imul (pc := 74) C dX6_person_74 ?_
            refine r_eqi (y := nI (5 * n)) (pk_mul 5 n) ?_
            refine r_iadd (pc := 75) C dX6_person_75 ?_
            refine r_eqi (y := nI (8 + 5 * n)) (nI_add 8 (5 * n)) ?_
            refine r_istore (pc := 76) C [(5, .int (nI (8 + 5 * n))), (0, .ref (h 0)), (1, .int k), (2, .int t), (3, .int w), (4, .int x)] dX6_person_76 (by decide) rfl ?_
            refine r_aload_n (pc := 78) C 1 dX6_person_78 rfl rfl ?_
            refine mg_s (pc := 79) C fl_RX6_7 dX6_person_79 ?_
            refine r_iload (pc := 82) C 0 dX6_person_82 rfl ?_
            refine r_iload_n (pc := 84) C 2 dX6_person_84 rfl rfl ?_
            refine as_s (pc := 85) C (8 + 5 * n) (rfl) (by omega) dX6_person_85 (σ 0) (rfl) ?_
            refine r_aload_n (pc := 86) C 1 dX6_person_86 rfl rfl ?_
            refine mg_s (pc := 87) C fl_RX6_7 dX6_person_87 ?_
            refine r_iload (pc := 90) C 0 dX6_person_90 rfl ?_
            refine r_iconst (pc := 92) C 1 dX6_person_92 (by decide) ?_
            refine r_iadd (pc := 93) C dX6_person_93 ?_
            refine r_eqi (y := nI (8 + 5 * n + 1)) (nI_add (8 + 5 * n) 1) ?_
            refine r_iload_n (pc := 94) C 3 dX6_person_94 rfl rfl ?_
            refine as_s (pc := 95) C (8 + 5 * n + 1) (rfl) (by omega) dX6_person_95 (upd (σ 0) (8 + 5 * n) k) (su_at) ?_
            refine r_blk (blk' := wM cs h (su σ 0 (upd (upd (σ 0) (8 + 5 * n) k) (8 + 5 * n + 1) t))) (congrArg (wM cs h) (by rw [su_su])) ?_
            refine r_aload_n (pc := 96) C 1 dX6_person_96 rfl rfl ?_
            refine mg_s (pc := 97) C fl_RX6_7 dX6_person_97 ?_
            refine r_iload (pc := 100) C 0 dX6_person_100 rfl ?_
            refine r_iconst (pc := 102) C 2 dX6_person_102 (by decide) ?_
            refine r_iadd (pc := 103) C dX6_person_103 ?_
            refine r_eqi (y := nI (8 + 5 * n + 2)) (nI_add (8 + 5 * n) 2) ?_
            refine r_iload_n (pc := 104) C 4 dX6_person_104 rfl rfl ?_
            refine as_s (pc := 105) C (8 + 5 * n + 2) (rfl) (by omega) dX6_person_105 (upd (upd (σ 0) (8 + 5 * n) k) (8 + 5 * n + 1) t) (su_at) ?_
            refine r_blk (blk' := wM cs h (su σ 0 (upd (upd (upd (σ 0) (8 + 5 * n) k) (8 + 5 * n + 1) t) (8 + 5 * n + 2) w))) (congrArg (wM cs h) (by rw [su_su])) ?_
            refine r_aload_n (pc := 106) C 1 dX6_person_106 rfl rfl ?_
            refine mg_s (pc := 107) C fl_RX6_7 dX6_person_107 ?_
            refine r_iload (pc := 110) C 0 dX6_person_110 rfl ?_
            refine r_iconst (pc := 112) C 3 dX6_person_112 (by decide) ?_
            refine r_iadd (pc := 113) C dX6_person_113 ?_
            refine r_eqi (y := nI (8 + 5 * n + 3)) (nI_add (8 + 5 * n) 3) ?_
            refine r_iload (pc := 114) C 5 dX6_person_114 rfl ?_
            refine as_s (pc := 116) C (8 + 5 * n + 3) (rfl) (by omega) dX6_person_116 (upd (upd (upd (σ 0) (8 + 5 * n) k) (8 + 5 * n + 1) t) (8 + 5 * n + 2) w) (su_at) ?_
            refine r_blk (blk' := wM cs h (su σ 0 (upd (upd (upd (upd (σ 0) (8 + 5 * n) k) (8 + 5 * n + 1) t) (8 + 5 * n + 2) w) (8 + 5 * n + 3) x))) (congrArg (wM cs h) (by rw [su_su])) ?_
            refine r_aload_n (pc := 117) C 1 dX6_person_117 rfl rfl ?_
            refine mg_s (pc := 118) C fl_RX6_7 dX6_person_118 ?_
            refine r_iload (pc := 121) C 0 dX6_person_121 rfl ?_
            refine r_iconst (pc := 123) C 4 dX6_person_123 (by decide) ?_
            refine r_iadd (pc := 124) C dX6_person_124 ?_
            refine r_eqi (y := nI (8 + 5 * n + 4)) (nI_add (8 + 5 * n) 4) ?_
            refine r_bipush (pc := 125) C 50 dX6_person_125 (by decide) ?_
            refine as_s (pc := 127) C (8 + 5 * n + 4) (rfl) (by omega) dX6_person_127 (upd (upd (upd (upd (σ 0) (8 + 5 * n) k) (8 + 5 * n + 1) t) (8 + 5 * n + 2) w) (8 + 5 * n + 3) x) (su_at) ?_
            refine r_blk (blk' := wM cs h (su σ 0 (upd (upd (upd (upd (upd (σ 0) (8 + 5 * n) k) (8 + 5 * n + 1) t) (8 + 5 * n + 2) w) (8 + 5 * n + 3) x) (8 + 5 * n + 4) 50))) (congrArg (wM cs h) (by rw [su_su])) ?_
            refine r_aload_n (pc := 128) C 1 dX6_person_128 rfl rfl ?_
            refine mg_s (pc := 129) C fl_RX6_7 dX6_person_129 ?_
            refine r_iconst (pc := 132) C 0 dX6_person_132 (by decide) ?_
            refine r_dup2 (pc := 133) C dX6_person_133 rfl rfl ?_
            refine al_s (pc := 134) C 0 (rfl) (by omega) dX6_person_134 (upd (upd (upd (upd (upd (σ 0) (8 + 5 * n) k) (8 + 5 * n + 1) t) (8 + 5 * n + 2) w) (8 + 5 * n + 3) x) (8 + 5 * n + 4) 50 0) (congrFun (su_at) _) ?_
            refine r_eqi (y := nI n) ((upd_0 (by omega) (upd_0 (by omega) (upd_0 (by omega) (upd_0 (by omega) (upd_0 (by omega) hN)))))) ?_
            refine r_iconst (pc := 135) C 1 dX6_person_135 (by decide) ?_
            refine r_iadd (pc := 136) C dX6_person_136 ?_
            refine r_eqi (y := nI (n + 1)) (nI_add n 1) ?_
            refine as_s (pc := 137) C 0 (rfl) (by omega) dX6_person_137 (upd (upd (upd (upd (upd (σ 0) (8 + 5 * n) k) (8 + 5 * n + 1) t) (8 + 5 * n + 2) w) (8 + 5 * n + 3) x) (8 + 5 * n + 4) 50) (su_at) ?_
            refine r_blk (blk' := wM cs h (su σ 0 (upd (upd (upd (upd (upd (upd (σ 0) (8 + 5 * n) k) (8 + 5 * n + 1) t) (8 + 5 * n + 2) w) (8 + 5 * n + 3) x) (8 + 5 * n + 4) 50) 0 (nI (n + 1))))) (congrArg (wM cs h) (by rw [su_su])) ?_
            refine r_aload_n (pc := 138) C 1 dX6_person_138 rfl rfl ?_
            refine mg_s (pc := 139) C fl_RX6_7 dX6_person_139 ?_
            refine r_iconst (pc := 142) C 0 dX6_person_142 (by decide) ?_
            refine al_s (pc := 143) C 0 (rfl) (by omega) dX6_person_143 (upd (upd (upd (upd (upd (upd (σ 0) (8 + 5 * n) k) (8 + 5 * n + 1) t) (8 + 5 * n + 2) w) (8 + 5 * n + 3) x) (8 + 5 * n + 4) 50) 0 (nI (n + 1)) 0) (congrFun (su_at) _) ?_
            refine r_eqi (y := nI (n + 1)) (upd_self) ?_
            refine r_iconst (pc := 144) C 1 dX6_person_144 (by decide) ?_
            refine r_isub (pc := 145) C dX6_person_145 ?_
            refine r_eqi (y := nI n) (nI_pred n) ?_
            exact r_iret (pc := 146) C hr hlk dX6_person_146 rfl (by first | rfl | (simp [gateI, gateF, perF, *]; done) | simp_all [gateI, gateF, perF]) (by rw [show (gateF ((inB k 0 5 && (inB t 0 99 && (inB w 0 99 && inB x 0 99))) && !(decide (n = 8))) (perF n (σ 0) k t w x) (σ 0) : Nat → Int32) = upd (upd (upd (upd (upd (upd (σ 0) (8 + 5 * n) k) (8 + 5 * n + 1) t) (8 + 5 * n + 2) w) (8 + 5 * n + 3) x) (8 + 5 * n + 4) 50) 0 (nI (n + 1)) from (by first | rfl | (simp [gateI, gateF, perF, *]; done) | simp_all [gateI, gateF, perF])]; first | rfl | done)
          · skip
            have c_5 := nIc_ne_f (a := n) (b := 8) (by omega) (by omega) c_5
            refine r_bipush (pc := 62) C (-2) dX6_person_62 (by decide) ?_
            exact r_iret (pc := 64) C hr hlk dX6_person_64 rfl (by first | rfl | (simp [gateI, gateF, perF, *]; done) | simp_all [gateI, gateF, perF]) (by rw [show (gateF ((inB k 0 5 && (inB t 0 99 && (inB w 0 99 && inB x 0 99))) && !(decide (n = 8))) (perF n (σ 0) k t w x) (σ 0) : Nat → Int32) = σ 0 from (by first | rfl | (simp [gateI, gateF, perF, *]; done) | simp_all [gateI, gateF, perF])]; first | rfl | done)
        · skip
          have c_4 := bI_0.mp c_4
          refine r_iconst (pc := 49) C (-1) dX6_person_49 (by decide) ?_
          exact r_iret (pc := 50) C hr hlk dX6_person_50 rfl (by first | rfl | (simp [gateI, gateF, perF, *]; done) | simp_all [gateI, gateF, perF]) (by rw [show (gateF ((inB k 0 5 && (inB t 0 99 && (inB w 0 99 && inB x 0 99))) && !(decide (n = 8))) (perF n (σ 0) k t w x) (σ 0) : Nat → Int32) = σ 0 from (by first | rfl | (simp [gateI, gateF, perF, *]; done) | simp_all [gateI, gateF, perF])]; first | rfl | done)
theorem t_X6_person' (l : Launch) (ad : Nat → Nat) (D : va_G) (cs : Nat → ClassId) (h : Nat → Nat) (σ : Nat → Nat → Int32) (pre post : va_W) (f0_ : Nat → Int32) (e0_ : σ 0 = f0_) (n : Nat) (k t w x : Int32) (hN : f0_ 0 = nI n) (hn : n ≤ 8) : CTi l yX6_person cX6_person 6 .int ({ frames := 1, cells := 0, slots := 0, locals := 25 }) ad D (tysW cs) (pre ++ (wM cs h σ ++ post)) [.ref (h 0), .int k, .int t, .int w, .int x] (gateI (inB k 0 5 && (inB t 0 99 && (inB w 0 99 && inB x 0 99))) (if n = 8 then -2 else nI n) (-1)) (pre ++ (wM cs h (su σ 0 (gateF ((inB k 0 5 && (inB t 0 99 && (inB w 0 99 && inB x 0 99))) && !(decide (n = 8))) (perF n f0_ k t w x) f0_)) ++ post)) := by
  subst e0_
  exact t_X6_person l ad D cs h σ pre post n k t w x hN hn
theorem dX6_keep_0 : decode cX6_keep 0 = .ok (.iconst 0, 1) := by decide +kernel
theorem dX6_keep_1 : decode cX6_keep 1 = .ok (.istore_n 1, 1) := by decide +kernel
theorem dX6_keep_2 : decode cX6_keep 2 = .ok (.iload_n 1, 1) := by decide +kernel
theorem dX6_keep_3 : decode cX6_keep 3 = .ok (.bipush 48, 2) := by decide +kernel
theorem dX6_keep_5 : decode cX6_keep 5 = .ok (.if_icmp .ge 21, 3) := by decide +kernel
theorem dX6_keep_8 : decode cX6_keep 8 = .ok (.aload_n 0, 1) := by decide +kernel
theorem dX6_keep_9 : decode cX6_keep 9 = .ok (.getfield 13, 3) := by decide +kernel
theorem dX6_keep_12 : decode cX6_keep 12 = .ok (.iload_n 1, 1) := by decide +kernel
theorem dX6_keep_13 : decode cX6_keep 13 = .ok (.aload_n 0, 1) := by decide +kernel
theorem dX6_keep_14 : decode cX6_keep 14 = .ok (.getfield 7, 3) := by decide +kernel
theorem dX6_keep_17 : decode cX6_keep 17 = .ok (.iload_n 1, 1) := by decide +kernel
theorem dX6_keep_18 : decode cX6_keep 18 = .ok (.iaload, 1) := by decide +kernel
theorem dX6_keep_19 : decode cX6_keep 19 = .ok (.iastore, 1) := by decide +kernel
theorem dX6_keep_20 : decode cX6_keep 20 = .ok (.iinc 1 1, 3) := by decide +kernel
theorem dX6_keep_23 : decode cX6_keep 23 = .ok (.goto (-21), 3) := by decide +kernel
theorem dX6_keep_26 : decode cX6_keep 26 = .ok (.aload_n 0, 1) := by decide +kernel
theorem dX6_keep_27 : decode cX6_keep 27 = .ok (.iconst 1, 1) := by decide +kernel
theorem dX6_keep_28 : decode cX6_keep 28 = .ok (.putfield 332, 3) := by decide +kernel
theorem dX6_keep_31 : decode cX6_keep 31 = .ok (.iconst 1, 1) := by decide +kernel
theorem dX6_keep_32 : decode cX6_keep 32 = .ok (.ireturn, 1) := by decide +kernel
set_option maxHeartbeats 400000 in
set_option maxRecDepth 20000 in
theorem t_X6_keep (l : Launch) (ad : Nat → Nat) (D : va_G) (cs : Nat → ClassId) (h : Nat → Nat) (σ : Nat → Nat → Int32) (pre post : va_W) (n : Nat) (hN : σ 0 0 = nI n) (hn : n ≤ 8) : CTi l yX6_keep cX6_keep 2 .int ({ frames := 0, cells := 0, slots := 0, locals := 0 }) ad D (tysW cs) (pre ++ (wM cs h σ ++ post)) [.ref (h 0)] 1 (pre ++ (wM cs h (su (su σ 1 (σ 0)) 4 (fun _ => 1)) ++ post)) := by
  refine CTi.of (lv0 := [(0, .ref (h 0))]) (by decide) rfl (Nat.le_of_ble_eq_true rfl) (fun p e s m args below meth c A C hr hlk => ?_)
  have C : Cx p s m args c cX6_keep 2 RX6 ad D (tysW cs) A := C
  refine r_iconst (pc := 0) C 0 dX6_keep_0 (by decide) ?_
  refine r_istore_n (pc := 1) C [(1, .int 0), (0, .ref (h 0))] dX6_keep_1 rfl (by decide) rfl ?_
  refine r_pick (lv' := [(0, .ref (h 0)), (1, .int 0)]) [1, 0] rfl ?_
  refine r_blk (blk' := wM cs h (su σ 1 (cpN (σ 0) (σ 1) 0))) (by rw [show (cpN (σ 0) (σ 1) 0 : Nat → Int32) = σ 1 from (cpN_0).symm] <;> rfl) ?_
  refine r_loop (blkf := fun i => wM cs h (su σ 1 (cpN (σ 0) (σ 1) i))) (lvf := fun i => [(0, .ref (h 0)), (1, .int (nI i))]) (fun i => True) 48 0 (by omega) (trivial) (fun i h_i _ ih => ?_)
  show VX p l e _ s m args below meth c _ D A 2 pre (wM cs h (su σ 1 (cpN (σ 0) (σ 1) i))) post 2 [(0, .ref (h 0)), (1, .int (nI i))] []
  refine r_iload_n (pc := 2) C 1 dX6_keep_2 rfl rfl ?_
  refine r_bipush (pc := 3) C 48 dX6_keep_3 (by decide) ?_
  refine r_icmp_ge (pc := 5) C 26 dX6_keep_5 (by decide) (fun c_1 => ?_) (fun c_1 => ?_)
  · skip
    have c_1 := nIc_ge_t (a := i) (b := 48) (by omega) (by omega) c_1
    obtain rfl : i = 48 := by omega
    refine cl_held (σ 0) (fun j hj => cpN_lt hj) ?_
    refine r_blk (blk' := wM cs h (su σ 1 (σ 0))) (congrArg (wM cs h) (by rw [su_su])) ?_
    refine r_aload_n (pc := 26) C 0 dX6_keep_26 rfl rfl ?_
    refine r_iconst (pc := 27) C 1 dX6_keep_27 (by decide) ?_
    refine mp_isHeld (pc := 28) C fl_RX6_332 dX6_keep_28 rfl rfl ?_
    refine r_iconst (pc := 31) C 1 dX6_keep_31 (by decide) ?_
    exact r_iret (pc := 32) C hr hlk dX6_keep_32 rfl rfl rfl
  · skip
    have c_1 := nIc_ge_f (a := i) (b := 48) (by omega) (by omega) c_1
    refine r_aload_n (pc := 8) C 0 dX6_keep_8 rfl rfl ?_
    refine mg_held (pc := 9) C fl_RX6_13 dX6_keep_9 ?_
    refine r_iload_n (pc := 12) C 1 dX6_keep_12 rfl rfl ?_
    refine r_aload_n (pc := 13) C 0 dX6_keep_13 rfl rfl ?_
    refine mg_s (pc := 14) C fl_RX6_7 dX6_keep_14 ?_
    refine r_iload_n (pc := 17) C 1 dX6_keep_17 rfl rfl ?_
    refine al_s (pc := 18) C i (rfl) (by omega) dX6_keep_18 (σ 0 i) (congrFun ((su_nn (by decide))) _) ?_
    refine as_held (pc := 19) C i (rfl) (by omega) dX6_keep_19 (cpN (σ 0) (σ 1) i) (su_at) ?_
    refine r_blk (blk' := wM cs h (su σ 1 (upd (cpN (σ 0) (σ 1) i) i (σ 0 i)))) (congrArg (wM cs h) (by rw [su_su])) ?_
    refine r_iinc (pc := 20) C (nI (i + 1)) 1 [(1, .int (nI (i + 1))), (0, .ref (h 0))] dX6_keep_20 rfl (nI_1 _) (by decide) rfl ?_
    refine r_goto (pc := 23) C 2 dX6_keep_23 (by decide) ?_
    refine r_pick (lv' := [(0, .ref (h 0)), (1, .int (nI (i + 1)))]) [1, 0] rfl ?_
    refine r_blk (blk' := wM cs h (su σ 1 (cpN (σ 0) (σ 1) (i + 1)))) (by rw [show (cpN (σ 0) (σ 1) (i + 1) : Nat → Int32) = upd (cpN (σ 0) (σ 1) i) i (σ 0 i) from (cpN_s).symm] <;> rfl) ?_
    exact ih (by omega) (trivial)
theorem t_X6_keep' (l : Launch) (ad : Nat → Nat) (D : va_G) (cs : Nat → ClassId) (h : Nat → Nat) (σ : Nat → Nat → Int32) (pre post : va_W) (f0_ : Nat → Int32) (e0_ : σ 0 = f0_) (n : Nat) (hN : f0_ 0 = nI n) (hn : n ≤ 8) : CTi l yX6_keep cX6_keep 2 .int ({ frames := 0, cells := 0, slots := 0, locals := 0 }) ad D (tysW cs) (pre ++ (wM cs h σ ++ post)) [.ref (h 0)] 1 (pre ++ (wM cs h (su (su σ 1 f0_) 4 (fun _ => 1)) ++ post)) := by
  subst e0_
  exact t_X6_keep l ad D cs h σ pre post n hN hn
theorem dX6_again_0 : decode cX6_again 0 = .ok (.aload_n 0, 1) := by decide +kernel
theorem dX6_again_1 : decode cX6_again 1 = .ok (.getfield 332, 3) := by decide +kernel
theorem dX6_again_4 : decode cX6_again 4 = .ok (.ifCond .ne 6, 3) := by decide +kernel
theorem dX6_again_7 : decode cX6_again 7 = .ok (.bipush (-3), 2) := by decide +kernel
theorem dX6_again_9 : decode cX6_again 9 = .ok (.ireturn, 1) := by decide +kernel
theorem dX6_again_10 : decode cX6_again 10 = .ok (.iconst 0, 1) := by decide +kernel
theorem dX6_again_11 : decode cX6_again 11 = .ok (.istore_n 1, 1) := by decide +kernel
theorem dX6_again_12 : decode cX6_again 12 = .ok (.iload_n 1, 1) := by decide +kernel
theorem dX6_again_13 : decode cX6_again 13 = .ok (.bipush 48, 2) := by decide +kernel
theorem dX6_again_15 : decode cX6_again 15 = .ok (.if_icmp .ge 21, 3) := by decide +kernel
theorem dX6_again_18 : decode cX6_again 18 = .ok (.aload_n 0, 1) := by decide +kernel
theorem dX6_again_19 : decode cX6_again 19 = .ok (.getfield 7, 3) := by decide +kernel
theorem dX6_again_22 : decode cX6_again 22 = .ok (.iload_n 1, 1) := by decide +kernel
theorem dX6_again_23 : decode cX6_again 23 = .ok (.aload_n 0, 1) := by decide +kernel
theorem dX6_again_24 : decode cX6_again 24 = .ok (.getfield 13, 3) := by decide +kernel
theorem dX6_again_27 : decode cX6_again 27 = .ok (.iload_n 1, 1) := by decide +kernel
theorem dX6_again_28 : decode cX6_again 28 = .ok (.iaload, 1) := by decide +kernel
theorem dX6_again_29 : decode cX6_again 29 = .ok (.iastore, 1) := by decide +kernel
theorem dX6_again_30 : decode cX6_again 30 = .ok (.iinc 1 1, 3) := by decide +kernel
theorem dX6_again_33 : decode cX6_again 33 = .ok (.goto (-21), 3) := by decide +kernel
theorem dX6_again_36 : decode cX6_again 36 = .ok (.aload_n 0, 1) := by decide +kernel
theorem dX6_again_37 : decode cX6_again 37 = .ok (.getfield 7, 3) := by decide +kernel
theorem dX6_again_40 : decode cX6_again 40 = .ok (.iconst 0, 1) := by decide +kernel
theorem dX6_again_41 : decode cX6_again 41 = .ok (.iaload, 1) := by decide +kernel
theorem dX6_again_42 : decode cX6_again 42 = .ok (.ireturn, 1) := by decide +kernel
set_option maxHeartbeats 400000 in
set_option maxRecDepth 20000 in
theorem t_X6_again (l : Launch) (ad : Nat → Nat) (D : va_G) (cs : Nat → ClassId) (h : Nat → Nat) (σ : Nat → Nat → Int32) (pre post : va_W) (n : Nat) (hN : σ 0 0 = nI n) (hn : n ≤ 8) : CTi l yX6_again cX6_again 2 .int ({ frames := 0, cells := 0, slots := 0, locals := 0 }) ad D (tysW cs) (pre ++ (wM cs h σ ++ post)) [.ref (h 0)] (gateI (decide (¬ σ 4 0 = 0)) (σ 1 0) (-3)) (pre ++ (wM cs h (su σ 0 (gateF (decide (¬ σ 4 0 = 0)) (σ 1) (σ 0))) ++ post)) := by
  refine CTi.of (lv0 := [(0, .ref (h 0))]) (by decide) rfl (Nat.le_of_ble_eq_true rfl) (fun p e s m args below meth c A C hr hlk => ?_)
  have C : Cx p s m args c cX6_again 2 RX6 ad D (tysW cs) A := C
  refine r_aload_n (pc := 0) C 0 dX6_again_0 rfl rfl ?_
  refine mg_isHeld (pc := 1) C fl_RX6_332 dX6_again_1 (σ 4 0) rfl ?_
  refine r_if_ne (pc := 4) C 10 dX6_again_4 (by decide) (fun c_1 => ?_) (fun c_1 => ?_)
  · skip
    refine r_iconst (pc := 10) C 0 dX6_again_10 (by decide) ?_
    refine r_istore_n (pc := 11) C [(1, .int 0), (0, .ref (h 0))] dX6_again_11 rfl (by decide) rfl ?_
    refine r_pick (lv' := [(0, .ref (h 0)), (1, .int 0)]) [1, 0] rfl ?_
    refine r_blk (blk' := wM cs h (su σ 0 (cpN (σ 1) (σ 0) 0))) (by rw [show (cpN (σ 1) (σ 0) 0 : Nat → Int32) = σ 0 from (cpN_0).symm] <;> rfl) ?_
    refine r_loop (blkf := fun i => wM cs h (su σ 0 (cpN (σ 1) (σ 0) i))) (lvf := fun i => [(0, .ref (h 0)), (1, .int (nI i))]) (fun i => True) 48 0 (by omega) (trivial) (fun i h_i _ ih => ?_)
    show VX p l e _ s m args below meth c _ D A 2 pre (wM cs h (su σ 0 (cpN (σ 1) (σ 0) i))) post 12 [(0, .ref (h 0)), (1, .int (nI i))] []
    refine r_iload_n (pc := 12) C 1 dX6_again_12 rfl rfl ?_
    refine r_bipush (pc := 13) C 48 dX6_again_13 (by decide) ?_
    refine r_icmp_ge (pc := 15) C 36 dX6_again_15 (by decide) (fun c_2 => ?_) (fun c_2 => ?_)
    · skip
      have c_2 := nIc_ge_t (a := i) (b := 48) (by omega) (by omega) c_2
      obtain rfl : i = 48 := by omega
      refine cl_s (σ 1) (fun j hj => cpN_lt hj) ?_
      refine r_blk (blk' := wM cs h (su σ 0 (σ 1))) (congrArg (wM cs h) (by rw [su_su])) ?_
      refine r_aload_n (pc := 36) C 0 dX6_again_36 rfl rfl ?_
      refine mg_s (pc := 37) C fl_RX6_7 dX6_again_37 ?_
      refine r_iconst (pc := 40) C 0 dX6_again_40 (by decide) ?_
      refine al_s (pc := 41) C 0 (rfl) (by omega) dX6_again_41 (σ 1 0) (congrFun (su_at) _) ?_
      exact r_iret (pc := 42) C hr hlk dX6_again_42 rfl (by first | rfl | (simp [gateI, gateF, *]; done) | simp_all [gateI, gateF]) (by rw [show (gateF (decide (¬ σ 4 0 = 0)) (σ 1) (σ 0) : Nat → Int32) = σ 1 from (by first | rfl | (simp [gateI, gateF, *]; done) | simp_all [gateI, gateF])]; first | rfl | done)
    · skip
      have c_2 := nIc_ge_f (a := i) (b := 48) (by omega) (by omega) c_2
      refine r_aload_n (pc := 18) C 0 dX6_again_18 rfl rfl ?_
      refine mg_s (pc := 19) C fl_RX6_7 dX6_again_19 ?_
      refine r_iload_n (pc := 22) C 1 dX6_again_22 rfl rfl ?_
      refine r_aload_n (pc := 23) C 0 dX6_again_23 rfl rfl ?_
      refine mg_held (pc := 24) C fl_RX6_13 dX6_again_24 ?_
      refine r_iload_n (pc := 27) C 1 dX6_again_27 rfl rfl ?_
      refine al_held (pc := 28) C i (rfl) (by omega) dX6_again_28 (σ 1 i) (congrFun ((su_nn (by decide))) _) ?_
      refine as_s (pc := 29) C i (rfl) (by omega) dX6_again_29 (cpN (σ 1) (σ 0) i) (su_at) ?_
      refine r_blk (blk' := wM cs h (su σ 0 (upd (cpN (σ 1) (σ 0) i) i (σ 1 i)))) (congrArg (wM cs h) (by rw [su_su])) ?_
      refine r_iinc (pc := 30) C (nI (i + 1)) 1 [(1, .int (nI (i + 1))), (0, .ref (h 0))] dX6_again_30 rfl (nI_1 _) (by decide) rfl ?_
      refine r_goto (pc := 33) C 12 dX6_again_33 (by decide) ?_
      refine r_pick (lv' := [(0, .ref (h 0)), (1, .int (nI (i + 1)))]) [1, 0] rfl ?_
      refine r_blk (blk' := wM cs h (su σ 0 (cpN (σ 1) (σ 0) (i + 1)))) (by rw [show (cpN (σ 1) (σ 0) (i + 1) : Nat → Int32) = upd (cpN (σ 1) (σ 0) i) i (σ 1 i) from (cpN_s).symm] <;> rfl) ?_
      exact ih (by omega) (trivial)
  · skip
    refine r_bipush (pc := 7) C (-3) dX6_again_7 (by decide) ?_
    exact r_iret (pc := 9) C hr hlk dX6_again_9 rfl (by first | rfl | (simp [gateI, gateF, *]; done) | simp_all [gateI, gateF]) (by rw [show (gateF (decide (¬ σ 4 0 = 0)) (σ 1) (σ 0) : Nat → Int32) = σ 0 from (by first | rfl | (simp [gateI, gateF, *]; done) | simp_all [gateI, gateF])]; first | rfl | done)
theorem t_X6_again' (l : Launch) (ad : Nat → Nat) (D : va_G) (cs : Nat → ClassId) (h : Nat → Nat) (σ : Nat → Nat → Int32) (pre post : va_W) (f0_ : Nat → Int32) (e0_ : σ 0 = f0_) (f1_ : Nat → Int32) (e1_ : σ 1 = f1_) (f4_ : Nat → Int32) (e4_ : σ 4 = f4_) (n : Nat) (hN : f0_ 0 = nI n) (hn : n ≤ 8) : CTi l yX6_again cX6_again 2 .int ({ frames := 0, cells := 0, slots := 0, locals := 0 }) ad D (tysW cs) (pre ++ (wM cs h σ ++ post)) [.ref (h 0)] (gateI (decide (¬ f4_ 0 = 0)) (f1_ 0) (-3)) (pre ++ (wM cs h (su σ 0 (gateF (decide (¬ f4_ 0 = 0)) (f1_) f0_)) ++ post)) := by
  subst e0_; subst e1_; subst e4_
  exact t_X6_again l ad D cs h σ pre post n hN hn
