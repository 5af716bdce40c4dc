theorem dX0_copyFrom_0 : decode cX0_copyFrom 0 = .ok (.aload_n 1, 1) := by decide +kernel
theorem dX0_copyFrom_1 : decode cX0_copyFrom 1 = .ok (.getfield 18, 3) := by decide +kernel
theorem dX0_copyFrom_4 : decode cX0_copyFrom 4 = .ok (.iconst 0, 1) := by decide +kernel
theorem dX0_copyFrom_5 : decode cX0_copyFrom 5 = .ok (.aload_n 0, 1) := by decide +kernel
theorem dX0_copyFrom_6 : decode cX0_copyFrom 6 = .ok (.getfield 18, 3) := by decide +kernel
theorem dX0_copyFrom_9 : decode cX0_copyFrom 9 = .ok (.iconst 0, 1) := by decide +kernel
theorem dX0_copyFrom_10 : decode cX0_copyFrom 10 = .ok (.iconst 4, 1) := by decide +kernel
theorem dX0_copyFrom_11 : decode cX0_copyFrom 11 = .ok (.invokestatic 32, 3) := by decide +kernel
theorem dX0_copyFrom_14 : decode cX0_copyFrom 14 = .ok (.iconst 0, 1) := by decide +kernel
theorem dX0_copyFrom_15 : decode cX0_copyFrom 15 = .ok (.istore_n 2, 1) := by decide +kernel
theorem dX0_copyFrom_16 : decode cX0_copyFrom 16 = .ok (.iload_n 2, 1) := by decide +kernel
theorem dX0_copyFrom_17 : decode cX0_copyFrom 17 = .ok (.iconst 5, 1) := by decide +kernel
theorem dX0_copyFrom_18 : decode cX0_copyFrom 18 = .ok (.if_icmp .ge 28, 3) := by decide +kernel
theorem dX0_copyFrom_21 : decode cX0_copyFrom 21 = .ok (.aload_n 1, 1) := by decide +kernel
theorem dX0_copyFrom_22 : decode cX0_copyFrom 22 = .ok (.getfield 25, 3) := by decide +kernel
theorem dX0_copyFrom_25 : decode cX0_copyFrom 25 = .ok (.iload_n 2, 1) := by decide +kernel
theorem dX0_copyFrom_26 : decode cX0_copyFrom 26 = .ok (.aaload, 1) := by decide +kernel
theorem dX0_copyFrom_27 : decode cX0_copyFrom 27 = .ok (.iconst 0, 1) := by decide +kernel
theorem dX0_copyFrom_28 : decode cX0_copyFrom 28 = .ok (.aload_n 0, 1) := by decide +kernel
theorem dX0_copyFrom_29 : decode cX0_copyFrom 29 = .ok (.getfield 25, 3) := by decide +kernel
theorem dX0_copyFrom_32 : decode cX0_copyFrom 32 = .ok (.iload_n 2, 1) := by decide +kernel
theorem dX0_copyFrom_33 : decode cX0_copyFrom 33 = .ok (.aaload, 1) := by decide +kernel
theorem dX0_copyFrom_34 : decode cX0_copyFrom 34 = .ok (.iconst 0, 1) := by decide +kernel
theorem dX0_copyFrom_35 : decode cX0_copyFrom 35 = .ok (.bipush 8, 2) := by decide +kernel
theorem dX0_copyFrom_37 : decode cX0_copyFrom 37 = .ok (.invokestatic 32, 3) := by decide +kernel
theorem dX0_copyFrom_40 : decode cX0_copyFrom 40 = .ok (.iinc 2 1, 3) := by decide +kernel
theorem dX0_copyFrom_43 : decode cX0_copyFrom 43 = .ok (.goto (-27), 3) := by decide +kernel
theorem dX0_copyFrom_46 : decode cX0_copyFrom 46 = .ok (.aload_n 0, 1) := by decide +kernel
theorem dX0_copyFrom_47 : decode cX0_copyFrom 47 = .ok (.aload_n 1, 1) := by decide +kernel
theorem dX0_copyFrom_48 : decode cX0_copyFrom 48 = .ok (.getfield 38, 3) := by decide +kernel
theorem dX0_copyFrom_51 : decode cX0_copyFrom 51 = .ok (.putfield 38, 3) := by decide +kernel
theorem dX0_copyFrom_54 : decode cX0_copyFrom 54 = .ok (.aload_n 0, 1) := by decide +kernel
theorem dX0_copyFrom_55 : decode cX0_copyFrom 55 = .ok (.aload_n 1, 1) := by decide +kernel
theorem dX0_copyFrom_56 : decode cX0_copyFrom 56 = .ok (.getfield 41, 3) := by decide +kernel
theorem dX0_copyFrom_59 : decode cX0_copyFrom 59 = .ok (.putfield 41, 3) := by decide +kernel
theorem dX0_copyFrom_62 : decode cX0_copyFrom 62 = .ok (.aload_n 0, 1) := by decide +kernel
theorem dX0_copyFrom_63 : decode cX0_copyFrom 63 = .ok (.aload_n 1, 1) := by decide +kernel
theorem dX0_copyFrom_64 : decode cX0_copyFrom 64 = .ok (.getfield 44, 3) := by decide +kernel
theorem dX0_copyFrom_67 : decode cX0_copyFrom 67 = .ok (.putfield 44, 3) := by decide +kernel
theorem dX0_copyFrom_70 : decode cX0_copyFrom 70 = .ok (.aload_n 0, 1) := by decide +kernel
theorem dX0_copyFrom_71 : decode cX0_copyFrom 71 = .ok (.aload_n 1, 1) := by decide +kernel
theorem dX0_copyFrom_72 : decode cX0_copyFrom 72 = .ok (.getfield 28, 3) := by decide +kernel
theorem dX0_copyFrom_75 : decode cX0_copyFrom 75 = .ok (.putfield 28, 3) := by decide +kernel
theorem dX0_copyFrom_78 : decode cX0_copyFrom 78 = .ok (.return_, 1) := by decide +kernel
set_option maxHeartbeats 400000 in
set_option maxRecDepth 20000 in
theorem t_X0_copyFrom_0_2 (l : Launch) (ad : Nat → Nat) (D : va_G) (cs : Nat → ClassId) (h : Nat → Nat) (σ : Nat → Nat → Int32) (pre post : va_W)   : CTv l yX0_copyFrom cX0_copyFrom 3 ({ frames := 1, cells := 0, slots := 0, locals := 49 }) ad D (tysW cs) (pre ++ (wX cs h σ ++ post)) [.ref (h 9), .ref (h 1)] (pre ++ (wX cs h (su σ 2 (σ 0)) ++ post)) := by
  refine CTv.of (lv0 := [(0, .ref (h 9)), (1, .ref (h 1))]) (by decide) rfl (Nat.le_of_ble_eq_true rfl) (fun p e s m args below meth c A C hr hlk => ?_)
  have C : Cx p s m args c cX0_copyFrom 3 RX0 ad D (tysW cs) A := C
  refine r_aload_n (pc := 0) C 1 dX0_copyFrom_0 rfl rfl ?_
  refine xg_laws_0 (pc := 1) C fl_RX0_18 dX0_copyFrom_1 ?_
  refine r_iconst (pc := 4) C 0 dX0_copyFrom_4 (by decide) ?_
  refine r_aload_n (pc := 5) C 0 dX0_copyFrom_5 rfl rfl ?_
  refine xg_laws_2 (pc := 6) C fl_RX0_18 dX0_copyFrom_6 ?_
  refine r_iconst (pc := 9) C 0 dX0_copyFrom_9 (by decide) ?_
  refine r_iconst (pc := 10) C 4 dX0_copyFrom_10 (by decide) ?_
  refine xc_laws_0_2 (pc := 11) C ml_RX0_32' (Nat.le_of_ble_eq_true rfl) (Nat.le_of_ble_eq_true rfl) (Nat.le_of_ble_eq_true rfl) dX0_copyFrom_11 (σ 0) (σ 2) (rfl) (rfl) ?_
  refine r_iconst (pc := 14) C 0 dX0_copyFrom_14 (by decide) ?_
  refine r_istore_n (pc := 15) C [(2, .int 0), (0, .ref (h 9)), (1, .ref (h 1))] dX0_copyFrom_15 rfl (by decide) rfl ?_
  refine r_iload_n (pc := 16) C 0 dX0_copyFrom_16 rfl rfl ?_
  refine r_iconst (pc := 17) C 5 dX0_copyFrom_17 (by decide) ?_
  refine r_icmp_ge (pc := 18) C 46 dX0_copyFrom_18 (by decide) (fun c_1 => ?_) (fun c_1 => ?_)
  · skip
    revert c_1; intro c_1
    exact absurd c_1 (by decide)
  · skip
    revert c_1; intro c_1
    refine r_aload_n (pc := 21) C 2 dX0_copyFrom_21 rfl rfl ?_
    refine xg_has_0 (pc := 22) C fl_RX0_25 dX0_copyFrom_22 ?_
    refine r_iload_n (pc := 25) C 0 dX0_copyFrom_25 rfl rfl ?_
    refine xa_has_0 (pc := 26) C 0 (rfl) (by omega) dX0_copyFrom_26 ?_
    refine r_iconst (pc := 27) C 0 dX0_copyFrom_27 (by decide) ?_
    refine r_aload_n (pc := 28) C 1 dX0_copyFrom_28 rfl rfl ?_
    refine xg_has_2 (pc := 29) C fl_RX0_25 dX0_copyFrom_29 ?_
    refine r_iload_n (pc := 32) C 0 dX0_copyFrom_32 rfl rfl ?_
    refine xa_has_2 (pc := 33) C 0 (rfl) (by omega) dX0_copyFrom_33 ?_
    refine r_iconst (pc := 34) C 0 dX0_copyFrom_34 (by decide) ?_
    refine r_bipush (pc := 35) C 8 dX0_copyFrom_35 (by decide) ?_
    refine xc_col0_0_2 (pc := 37) C ml_RX0_32' (Nat.le_of_ble_eq_true rfl) (Nat.le_of_ble_eq_true rfl) (Nat.le_of_ble_eq_true rfl) dX0_copyFrom_37 (σ 0) (σ 2) ((su_nn (by decide))) (su_at) ?_
    refine r_blk (blk' := wX cs h (su σ 2 (cpC 1 (σ 0) (σ 2)))) (congrArg (wX cs h) (by rw [su_su])) ?_
    refine r_iinc (pc := 40) C 1 0 [(2, .int 1), (0, .ref (h 9)), (1, .ref (h 1))] dX0_copyFrom_40 rfl ((by decide)) (by decide) rfl ?_
    refine r_goto (pc := 43) C 16 dX0_copyFrom_43 (by decide) ?_
    refine r_iload_n (pc := 16) C 0 dX0_copyFrom_16 rfl rfl ?_
    refine r_iconst (pc := 17) C 5 dX0_copyFrom_17 (by decide) ?_
    refine r_icmp_ge (pc := 18) C 46 dX0_copyFrom_18 (by decide) (fun c_2 => ?_) (fun c_2 => ?_)
    · skip
      revert c_2; intro c_2
      exact absurd c_2 (by decide)
    · skip
      revert c_2; intro c_2
      refine r_aload_n (pc := 21) C 2 dX0_copyFrom_21 rfl rfl ?_
      refine xg_has_0 (pc := 22) C fl_RX0_25 dX0_copyFrom_22 ?_
      refine r_iload_n (pc := 25) C 0 dX0_copyFrom_25 rfl rfl ?_
      refine xa_has_0 (pc := 26) C 1 (rfl) (by omega) dX0_copyFrom_26 ?_
      refine r_iconst (pc := 27) C 0 dX0_copyFrom_27 (by decide) ?_
      refine r_aload_n (pc := 28) C 1 dX0_copyFrom_28 rfl rfl ?_
      refine xg_has_2 (pc := 29) C fl_RX0_25 dX0_copyFrom_29 ?_
      refine r_iload_n (pc := 32) C 0 dX0_copyFrom_32 rfl rfl ?_
      refine xa_has_2 (pc := 33) C 1 (rfl) (by omega) dX0_copyFrom_33 ?_
      refine r_iconst (pc := 34) C 0 dX0_copyFrom_34 (by decide) ?_
      refine r_bipush (pc := 35) C 8 dX0_copyFrom_35 (by decide) ?_
      refine xc_col1_0_2 (pc := 37) C ml_RX0_32' (Nat.le_of_ble_eq_true rfl) (Nat.le_of_ble_eq_true rfl) (Nat.le_of_ble_eq_true rfl) dX0_copyFrom_37 (σ 0) (σ 2) ((su_nn (by decide))) (su_at) ?_
      refine r_blk (blk' := wX cs h (su σ 2 (cpC 2 (σ 0) (σ 2)))) (congrArg (wX cs h) (by rw [su_su])) ?_
      refine r_iinc (pc := 40) C 2 0 [(2, .int 2), (0, .ref (h 9)), (1, .ref (h 1))] dX0_copyFrom_40 rfl ((by decide)) (by decide) rfl ?_
      refine r_goto (pc := 43) C 16 dX0_copyFrom_43 (by decide) ?_
      refine r_iload_n (pc := 16) C 0 dX0_copyFrom_16 rfl rfl ?_
      refine r_iconst (pc := 17) C 5 dX0_copyFrom_17 (by decide) ?_
      refine r_icmp_ge (pc := 18) C 46 dX0_copyFrom_18 (by decide) (fun c_3 => ?_) (fun c_3 => ?_)
      · skip
        revert c_3; intro c_3
        exact absurd c_3 (by decide)
      · skip
        revert c_3; intro c_3
        refine r_aload_n (pc := 21) C 2 dX0_copyFrom_21 rfl rfl ?_
        refine xg_has_0 (pc := 22) C fl_RX0_25 dX0_copyFrom_22 ?_
        refine r_iload_n (pc := 25) C 0 dX0_copyFrom_25 rfl rfl ?_
        refine xa_has_0 (pc := 26) C 2 (rfl) (by omega) dX0_copyFrom_26 ?_
        refine r_iconst (pc := 27) C 0 dX0_copyFrom_27 (by decide) ?_
        refine r_aload_n (pc := 28) C 1 dX0_copyFrom_28 rfl rfl ?_
        refine xg_has_2 (pc := 29) C fl_RX0_25 dX0_copyFrom_29 ?_
        refine r_iload_n (pc := 32) C 0 dX0_copyFrom_32 rfl rfl ?_
        refine xa_has_2 (pc := 33) C 2 (rfl) (by omega) dX0_copyFrom_33 ?_
        refine r_iconst (pc := 34) C 0 dX0_copyFrom_34 (by decide) ?_
        refine r_bipush (pc := 35) C 8 dX0_copyFrom_35 (by decide) ?_
        refine xc_col2_0_2 (pc := 37) C ml_RX0_32' (Nat.le_of_ble_eq_true rfl) (Nat.le_of_ble_eq_true rfl) (Nat.le_of_ble_eq_true rfl) dX0_copyFrom_37 (σ 0) (σ 2) ((su_nn (by decide))) (su_at) ?_
        refine r_blk (blk' := wX cs h (su σ 2 (cpC 3 (σ 0) (σ 2)))) (congrArg (wX cs h) (by rw [su_su])) ?_
        refine r_iinc (pc := 40) C 3 0 [(2, .int 3), (0, .ref (h 9)), (1, .ref (h 1))] dX0_copyFrom_40 rfl ((by decide)) (by decide) rfl ?_
        refine r_goto (pc := 43) C 16 dX0_copyFrom_43 (by decide) ?_
        refine r_iload_n (pc := 16) C 0 dX0_copyFrom_16 rfl rfl ?_
        refine r_iconst (pc := 17) C 5 dX0_copyFrom_17 (by decide) ?_
        refine r_icmp_ge (pc := 18) C 46 dX0_copyFrom_18 (by decide) (fun c_4 => ?_) (fun c_4 => ?_)
        · skip
          revert c_4; intro c_4
          exact absurd c_4 (by decide)
        · skip
          revert c_4; intro c_4
          refine r_aload_n (pc := 21) C 2 dX0_copyFrom_21 rfl rfl ?_
          refine xg_has_0 (pc := 22) C fl_RX0_25 dX0_copyFrom_22 ?_
          refine r_iload_n (pc := 25) C 0 dX0_copyFrom_25 rfl rfl ?_
          refine xa_has_0 (pc := 26) C 3 (rfl) (by omega) dX0_copyFrom_26 ?_
          refine r_iconst (pc := 27) C 0 dX0_copyFrom_27 (by decide) ?_
          refine r_aload_n (pc := 28) C 1 dX0_copyFrom_28 rfl rfl ?_
          refine xg_has_2 (pc := 29) C fl_RX0_25 dX0_copyFrom_29 ?_
          refine r_iload_n (pc := 32) C 0 dX0_copyFrom_32 rfl rfl ?_
          refine xa_has_2 (pc := 33) C 3 (rfl) (by omega) dX0_copyFrom_33 ?_
          refine r_iconst (pc := 34) C 0 dX0_copyFrom_34 (by decide) ?_
          refine r_bipush (pc := 35) C 8 dX0_copyFrom_35 (by decide) ?_
          refine xc_col3_0_2 (pc := 37) C ml_RX0_32' (Nat.le_of_ble_eq_true rfl) (Nat.le_of_ble_eq_true rfl) (Nat.le_of_ble_eq_true rfl) dX0_copyFrom_37 (σ 0) (σ 2) ((su_nn (by decide))) (su_at) ?_
          refine r_blk (blk' := wX cs h (su σ 2 (cpC 4 (σ 0) (σ 2)))) (congrArg (wX cs h) (by rw [su_su])) ?_
          refine r_iinc (pc := 40) C 4 0 [(2, .int 4), (0, .ref (h 9)), (1, .ref (h 1))] dX0_copyFrom_40 rfl ((by decide)) (by decide) rfl ?_
          refine r_goto (pc := 43) C 16 dX0_copyFrom_43 (by decide) ?_
          refine r_iload_n (pc := 16) C 0 dX0_copyFrom_16 rfl rfl ?_
          refine r_iconst (pc := 17) C 5 dX0_copyFrom_17 (by decide) ?_
          refine r_icmp_ge (pc := 18) C 46 dX0_copyFrom_18 (by decide) (fun c_5 => ?_) (fun c_5 => ?_)
          · skip
            revert c_5; intro c_5
            exact absurd c_5 (by decide)
          · skip
            revert c_5; intro c_5
            refine r_aload_n (pc := 21) C 2 dX0_copyFrom_21 rfl rfl ?_
            refine xg_has_0 (pc := 22) C fl_RX0_25 dX0_copyFrom_22 ?_
            refine r_iload_n (pc := 25) C 0 dX0_copyFrom_25 rfl rfl ?_
            refine xa_has_0 (pc := 26) C 4 (rfl) (by omega) dX0_copyFrom_26 ?_
            refine r_iconst (pc := 27) C 0 dX0_copyFrom_27 (by decide) ?_
            refine r_aload_n (pc := 28) C 1 dX0_copyFrom_28 rfl rfl ?_
            refine xg_has_2 (pc := 29) C fl_RX0_25 dX0_copyFrom_29 ?_
            refine r_iload_n (pc := 32) C 0 dX0_copyFrom_32 rfl rfl ?_
            refine xa_has_2 (pc := 33) C 4 (rfl) (by omega) dX0_copyFrom_33 ?_
            refine r_iconst (pc := 34) C 0 dX0_copyFrom_34 (by decide) ?_
            refine r_bipush (pc := 35) C 8 dX0_copyFrom_35 (by decide) ?_
            refine xc_col4_0_2 (pc := 37) C ml_RX0_32' (Nat.le_of_ble_eq_true rfl) (Nat.le_of_ble_eq_true rfl) (Nat.le_of_ble_eq_true rfl) dX0_copyFrom_37 (σ 0) (σ 2) ((su_nn (by decide))) (su_at) ?_
            refine r_blk (blk' := wX cs h (su σ 2 (cpC 5 (σ 0) (σ 2)))) (congrArg (wX cs h) (by rw [su_su])) ?_
            refine r_iinc (pc := 40) C 5 0 [(2, .int 5), (0, .ref (h 9)), (1, .ref (h 1))] dX0_copyFrom_40 rfl ((by decide)) (by decide) rfl ?_
            refine r_goto (pc := 43) C 16 dX0_copyFrom_43 (by decide) ?_
            refine r_iload_n (pc := 16) C 0 dX0_copyFrom_16 rfl rfl ?_
            refine r_iconst (pc := 17) C 5 dX0_copyFrom_17 (by decide) ?_
            refine r_icmp_ge (pc := 18) C 46 dX0_copyFrom_18 (by decide) (fun c_6 => ?_) (fun c_6 => ?_)
            · skip
              revert c_6; intro c_6
              refine r_aload_n (pc := 46) C 1 dX0_copyFrom_46 rfl rfl ?_
              refine r_aload_n (pc := 47) C 2 dX0_copyFrom_47 rfl rfl ?_
              refine xg_count_0 (pc := 48) C fl_RX0_38 dX0_copyFrom_48 (σ 0 0) (congrFun ((su_nn (by decide))) 0) ?_
              refine xp_count_2 (pc := 51) C fl_RX0_38 dX0_copyFrom_51 (cpC 5 (σ 0) (σ 2)) (su_at) ?_
              refine r_blk (blk' := wX cs h (su σ 2 (upd (cpC 5 (σ 0) (σ 2)) 0 (σ 0 0)))) (congrArg (wX cs h) (by rw [su_su])) ?_
              refine r_aload_n (pc := 54) C 1 dX0_copyFrom_54 rfl rfl ?_
              refine r_aload_n (pc := 55) C 2 dX0_copyFrom_55 rfl rfl ?_
              refine xg_dayNumber_0 (pc := 56) C fl_RX0_41 dX0_copyFrom_56 (σ 0 1) (congrFun ((su_nn (by decide))) 1) ?_
              refine xp_dayNumber_2 (pc := 59) C fl_RX0_41 dX0_copyFrom_59 (upd (cpC 5 (σ 0) (σ 2)) 0 (σ 0 0)) (su_at) ?_
              refine r_blk (blk' := wX cs h (su σ 2 (upd (upd (cpC 5 (σ 0) (σ 2)) 0 (σ 0 0)) 1 (σ 0 1)))) (congrArg (wX cs h) (by rw [su_su])) ?_
              refine r_aload_n (pc := 62) C 1 dX0_copyFrom_62 rfl rfl ?_
              refine r_aload_n (pc := 63) C 2 dX0_copyFrom_63 rfl rfl ?_
              refine xg_chest_0 (pc := 64) C fl_RX0_44 dX0_copyFrom_64 (σ 0 3) (congrFun ((su_nn (by decide))) 3) ?_
              refine xp_chest_2 (pc := 67) C fl_RX0_44 dX0_copyFrom_67 (upd (upd (cpC 5 (σ 0) (σ 2)) 0 (σ 0 0)) 1 (σ 0 1)) (su_at) ?_
              refine r_blk (blk' := wX cs h (su σ 2 (upd (upd (upd (cpC 5 (σ 0) (σ 2)) 0 (σ 0 0)) 1 (σ 0 1)) 3 (σ 0 3)))) (congrArg (wX cs h) (by rw [su_su])) ?_
              refine r_aload_n (pc := 70) C 1 dX0_copyFrom_70 rfl rfl ?_
              refine r_aload_n (pc := 71) C 2 dX0_copyFrom_71 rfl rfl ?_
              refine xg_z_0 (pc := 72) C fl_RX0_28 dX0_copyFrom_72 (σ 0 2) (congrFun ((su_nn (by decide))) 2) ?_
              refine xp_z_2 (pc := 75) C fl_RX0_28 dX0_copyFrom_75 (upd (upd (upd (cpC 5 (σ 0) (σ 2)) 0 (σ 0 0)) 1 (σ 0 1)) 3 (σ 0 3)) (su_at) ?_
              refine r_blk (blk' := wX cs h (su σ 2 (upd (upd (upd (upd (cpC 5 (σ 0) (σ 2)) 0 (σ 0 0)) 1 (σ 0 1)) 3 (σ 0 3)) 2 (σ 0 2)))) (congrArg (wX cs h) (by rw [su_su])) ?_
              refine r_blk (blk' := wX cs h (su σ 2 (σ 0))) (by rw [show (upd (upd (upd (upd (cpC 5 (σ 0) (σ 2)) 0 (σ 0 0)) 1 (σ 0 1)) 3 (σ 0 3)) 2 (σ 0 2) : Nat → Int32) = σ 0 from (cp_all _ _)] <;> rfl) ?_
              exact r_vret (pc := 78) C hr hlk dX0_copyFrom_78 rfl
            · skip
              revert c_6; intro c_6
              exact absurd c_6 (by decide)
theorem t_X0_copyFrom_0_2' (l : Launch) (ad : Nat → Nat) (D : va_G) (cs : Nat → ClassId) (h : Nat → Nat) (σ : Nat → Nat → Int32) (pre post : va_W) (f0_ : Nat → Int32) (e0_ : σ 0 = f0_)   : CTv l yX0_copyFrom cX0_copyFrom 3 ({ frames := 1, cells := 0, slots := 0, locals := 49 }) ad D (tysW cs) (pre ++ (wX cs h σ ++ post)) [.ref (h 9), .ref (h 1)] (pre ++ (wX cs h (su σ 2 f0_) ++ post)) := by
  subst e0_
  exact t_X0_copyFrom_0_2 l ad D cs h σ pre post  
set_option maxHeartbeats 400000 in
set_option maxRecDepth 20000 in
theorem t_X0_copyFrom_3_0 (l : Launch) (ad : Nat → Nat) (D : va_G) (cs : Nat → ClassId) (h : Nat → Nat) (σ : Nat → Nat → Int32) (pre post : va_W)   : CTv l yX0_copyFrom cX0_copyFrom 3 ({ frames := 1, cells := 0, slots := 0, locals := 49 }) ad D (tysW cs) (pre ++ (wX cs h σ ++ post)) [.ref (h 1), .ref (h 25)] (pre ++ (wX cs h (su σ 0 (σ 3)) ++ post)) := by
  refine CTv.of (lv0 := [(0, .ref (h 1)), (1, .ref (h 25))]) (by decide) rfl (Nat.le_of_ble_eq_true rfl) (fun p e s m args below meth c A C hr hlk => ?_)
  have C : Cx p s m args c cX0_copyFrom 3 RX0 ad D (tysW cs) A := C
  refine r_aload_n (pc := 0) C 1 dX0_copyFrom_0 rfl rfl ?_
  refine xg_laws_3 (pc := 1) C fl_RX0_18 dX0_copyFrom_1 ?_
  refine r_iconst (pc := 4) C 0 dX0_copyFrom_4 (by decide) ?_
  refine r_aload_n (pc := 5) C 0 dX0_copyFrom_5 rfl rfl ?_
  refine xg_laws_0 (pc := 6) C fl_RX0_18 dX0_copyFrom_6 ?_
  refine r_iconst (pc := 9) C 0 dX0_copyFrom_9 (by decide) ?_
  refine r_iconst (pc := 10) C 4 dX0_copyFrom_10 (by decide) ?_
  refine xc_laws_3_0 (pc := 11) C ml_RX0_32' (Nat.le_of_ble_eq_true rfl) (Nat.le_of_ble_eq_true rfl) (Nat.le_of_ble_eq_true rfl) dX0_copyFrom_11 (σ 3) (σ 0) (rfl) (rfl) ?_
  refine r_iconst (pc := 14) C 0 dX0_copyFrom_14 (by decide) ?_
  refine r_istore_n (pc := 15) C [(2, .int 0), (0, .ref (h 1)), (1, .ref (h 25))] dX0_copyFrom_15 rfl (by decide) rfl ?_
  refine r_iload_n (pc := 16) C 0 dX0_copyFrom_16 rfl rfl ?_
  refine r_iconst (pc := 17) C 5 dX0_copyFrom_17 (by decide) ?_
  refine r_icmp_ge (pc := 18) C 46 dX0_copyFrom_18 (by decide) (fun c_1 => ?_) (fun c_1 => ?_)
  · skip
    revert c_1; intro c_1
    exact absurd c_1 (by decide)
  · skip
    revert c_1; intro c_1
    refine r_aload_n (pc := 21) C 2 dX0_copyFrom_21 rfl rfl ?_
    refine xg_has_3 (pc := 22) C fl_RX0_25 dX0_copyFrom_22 ?_
    refine r_iload_n (pc := 25) C 0 dX0_copyFrom_25 rfl rfl ?_
    refine xa_has_3 (pc := 26) C 0 (rfl) (by omega) dX0_copyFrom_26 ?_
    refine r_iconst (pc := 27) C 0 dX0_copyFrom_27 (by decide) ?_
    refine r_aload_n (pc := 28) C 1 dX0_copyFrom_28 rfl rfl ?_
    refine xg_has_0 (pc := 29) C fl_RX0_25 dX0_copyFrom_29 ?_
    refine r_iload_n (pc := 32) C 0 dX0_copyFrom_32 rfl rfl ?_
    refine xa_has_0 (pc := 33) C 0 (rfl) (by omega) dX0_copyFrom_33 ?_
    refine r_iconst (pc := 34) C 0 dX0_copyFrom_34 (by decide) ?_
    refine r_bipush (pc := 35) C 8 dX0_copyFrom_35 (by decide) ?_
    refine xc_col0_3_0 (pc := 37) C ml_RX0_32' (Nat.le_of_ble_eq_true rfl) (Nat.le_of_ble_eq_true rfl) (Nat.le_of_ble_eq_true rfl) dX0_copyFrom_37 (σ 3) (σ 0) ((su_nn (by decide))) (su_at) ?_
    refine r_blk (blk' := wX cs h (su σ 0 (cpC 1 (σ 3) (σ 0)))) (congrArg (wX cs h) (by rw [su_su])) ?_
    refine r_iinc (pc := 40) C 1 0 [(2, .int 1), (0, .ref (h 1)), (1, .ref (h 25))] dX0_copyFrom_40 rfl ((by decide)) (by decide) rfl ?_
    refine r_goto (pc := 43) C 16 dX0_copyFrom_43 (by decide) ?_
    refine r_iload_n (pc := 16) C 0 dX0_copyFrom_16 rfl rfl ?_
    refine r_iconst (pc := 17) C 5 dX0_copyFrom_17 (by decide) ?_
    refine r_icmp_ge (pc := 18) C 46 dX0_copyFrom_18 (by decide) (fun c_2 => ?_) (fun c_2 => ?_)
    · skip
      revert c_2; intro c_2
      exact absurd c_2 (by decide)
    · skip
      revert c_2; intro c_2
      refine r_aload_n (pc := 21) C 2 dX0_copyFrom_21 rfl rfl ?_
      refine xg_has_3 (pc := 22) C fl_RX0_25 dX0_copyFrom_22 ?_
      refine r_iload_n (pc := 25) C 0 dX0_copyFrom_25 rfl rfl ?_
      refine xa_has_3 (pc := 26) C 1 (rfl) (by omega) dX0_copyFrom_26 ?_
      refine r_iconst (pc := 27) C 0 dX0_copyFrom_27 (by decide) ?_
      refine r_aload_n (pc := 28) C 1 dX0_copyFrom_28 rfl rfl ?_
      refine xg_has_0 (pc := 29) C fl_RX0_25 dX0_copyFrom_29 ?_
      refine r_iload_n (pc := 32) C 0 dX0_copyFrom_32 rfl rfl ?_
      refine xa_has_0 (pc := 33) C 1 (rfl) (by omega) dX0_copyFrom_33 ?_
      refine r_iconst (pc := 34) C 0 dX0_copyFrom_34 (by decide) ?_
      refine r_bipush (pc := 35) C 8 dX0_copyFrom_35 (by decide) ?_
      refine xc_col1_3_0 (pc := 37) C ml_RX0_32' (Nat.le_of_ble_eq_true rfl) (Nat.le_of_ble_eq_true rfl) (Nat.le_of_ble_eq_true rfl) dX0_copyFrom_37 (σ 3) (σ 0) ((su_nn (by decide))) (su_at) ?_
      refine r_blk (blk' := wX cs h (su σ 0 (cpC 2 (σ 3) (σ 0)))) (congrArg (wX cs h) (by rw [su_su])) ?_
      refine r_iinc (pc := 40) C 2 0 [(2, .int 2), (0, .ref (h 1)), (1, .ref (h 25))] dX0_copyFrom_40 rfl ((by decide)) (by decide) rfl ?_
      refine r_goto (pc := 43) C 16 dX0_copyFrom_43 (by decide) ?_
      refine r_iload_n (pc := 16) C 0 dX0_copyFrom_16 rfl rfl ?_
      refine r_iconst (pc := 17) C 5 dX0_copyFrom_17 (by decide) ?_
      refine r_icmp_ge (pc := 18) C 46 dX0_copyFrom_18 (by decide) (fun c_3 => ?_) (fun c_3 => ?_)
      · skip
        revert c_3; intro c_3
        exact absurd c_3 (by decide)
      · skip
        revert c_3; intro c_3
        refine r_aload_n (pc := 21) C 2 dX0_copyFrom_21 rfl rfl ?_
        refine xg_has_3 (pc := 22) C fl_RX0_25 dX0_copyFrom_22 ?_
        refine r_iload_n (pc := 25) C 0 dX0_copyFrom_25 rfl rfl ?_
        refine xa_has_3 (pc := 26) C 2 (rfl) (by omega) dX0_copyFrom_26 ?_
        refine r_iconst (pc := 27) C 0 dX0_copyFrom_27 (by decide) ?_
        refine r_aload_n (pc := 28) C 1 dX0_copyFrom_28 rfl rfl ?_
        refine xg_has_0 (pc := 29) C fl_RX0_25 dX0_copyFrom_29 ?_
        refine r_iload_n (pc := 32) C 0 dX0_copyFrom_32 rfl rfl ?_
        refine xa_has_0 (pc := 33) C 2 (rfl) (by omega) dX0_copyFrom_33 ?_
        refine r_iconst (pc := 34) C 0 dX0_copyFrom_34 (by decide) ?_
        refine r_bipush (pc := 35) C 8 dX0_copyFrom_35 (by decide) ?_
        refine xc_col2_3_0 (pc := 37) C ml_RX0_32' (Nat.le_of_ble_eq_true rfl) (Nat.le_of_ble_eq_true rfl) (Nat.le_of_ble_eq_true rfl) dX0_copyFrom_37 (σ 3) (σ 0) ((su_nn (by decide))) (su_at) ?_
        refine r_blk (blk' := wX cs h (su σ 0 (cpC 3 (σ 3) (σ 0)))) (congrArg (wX cs h) (by rw [su_su])) ?_
        refine r_iinc (pc := 40) C 3 0 [(2, .int 3), (0, .ref (h 1)), (1, .ref (h 25))] dX0_copyFrom_40 rfl ((by decide)) (by decide) rfl ?_
        refine r_goto (pc := 43) C 16 dX0_copyFrom_43 (by decide) ?_
        refine r_iload_n (pc := 16) C 0 dX0_copyFrom_16 rfl rfl ?_
        refine r_iconst (pc := 17) C 5 dX0_copyFrom_17 (by decide) ?_
        refine r_icmp_ge (pc := 18) C 46 dX0_copyFrom_18 (by decide) (fun c_4 => ?_) (fun c_4 => ?_)
        · skip
          revert c_4; intro c_4
          exact absurd c_4 (by decide)
        · skip
          revert c_4; intro c_4
          refine r_aload_n (pc := 21) C 2 dX0_copyFrom_21 rfl rfl ?_
          refine xg_has_3 (pc := 22) C fl_RX0_25 dX0_copyFrom_22 ?_
          refine r_iload_n (pc := 25) C 0 dX0_copyFrom_25 rfl rfl ?_
          refine xa_has_3 (pc := 26) C 3 (rfl) (by omega) dX0_copyFrom_26 ?_
          refine r_iconst (pc := 27) C 0 dX0_copyFrom_27 (by decide) ?_
          refine r_aload_n (pc := 28) C 1 dX0_copyFrom_28 rfl rfl ?_
          refine xg_has_0 (pc := 29) C fl_RX0_25 dX0_copyFrom_29 ?_
          refine r_iload_n (pc := 32) C 0 dX0_copyFrom_32 rfl rfl ?_
          refine xa_has_0 (pc := 33) C 3 (rfl) (by omega) dX0_copyFrom_33 ?_
          refine r_iconst (pc := 34) C 0 dX0_copyFrom_34 (by decide) ?_
          refine r_bipush (pc := 35) C 8 dX0_copyFrom_35 (by decide) ?_
          refine xc_col3_3_0 (pc := 37) C ml_RX0_32' (Nat.le_of_ble_eq_true rfl) (Nat.le_of_ble_eq_true rfl) (Nat.le_of_ble_eq_true rfl) dX0_copyFrom_37 (σ 3) (σ 0) ((su_nn (by decide))) (su_at) ?_
          refine r_blk (blk' := wX cs h (su σ 0 (cpC 4 (σ 3) (σ 0)))) (congrArg (wX cs h) (by rw [su_su])) ?_
          refine r_iinc (pc := 40) C 4 0 [(2, .int 4), (0, .ref (h 1)), (1, .ref (h 25))] dX0_copyFrom_40 rfl ((by decide)) (by decide) rfl ?_
          refine r_goto (pc := 43) C 16 dX0_copyFrom_43 (by decide) ?_
          refine r_iload_n (pc := 16) C 0 dX0_copyFrom_16 rfl rfl ?_
          refine r_iconst (pc := 17) C 5 dX0_copyFrom_17 (by decide) ?_
          refine r_icmp_ge (pc := 18) C 46 dX0_copyFrom_18 (by decide) (fun c_5 => ?_) (fun c_5 => ?_)
          · skip
            revert c_5; intro c_5
            exact absurd c_5 (by decide)
          · skip
            revert c_5; intro c_5
            refine r_aload_n (pc := 21) C 2 dX0_copyFrom_21 rfl rfl ?_
            refine xg_has_3 (pc := 22) C fl_RX0_25 dX0_copyFrom_22 ?_
            refine r_iload_n (pc := 25) C 0 dX0_copyFrom_25 rfl rfl ?_
            refine xa_has_3 (pc := 26) C 4 (rfl) (by omega) dX0_copyFrom_26 ?_
            refine r_iconst (pc := 27) C 0 dX0_copyFrom_27 (by decide) ?_
            refine r_aload_n (pc := 28) C 1 dX0_copyFrom_28 rfl rfl ?_
            refine xg_has_0 (pc := 29) C fl_RX0_25 dX0_copyFrom_29 ?_
            refine r_iload_n (pc := 32) C 0 dX0_copyFrom_32 rfl rfl ?_
            refine xa_has_0 (pc := 33) C 4 (rfl) (by omega) dX0_copyFrom_33 ?_
            refine r_iconst (pc := 34) C 0 dX0_copyFrom_34 (by decide) ?_
            refine r_bipush (pc := 35) C 8 dX0_copyFrom_35 (by decide) ?_
            refine xc_col4_3_0 (pc := 37) C ml_RX0_32' (Nat.le_of_ble_eq_true rfl) (Nat.le_of_ble_eq_true rfl) (Nat.le_of_ble_eq_true rfl) dX0_copyFrom_37 (σ 3) (σ 0) ((su_nn (by decide))) (su_at) ?_
            refine r_blk (blk' := wX cs h (su σ 0 (cpC 5 (σ 3) (σ 0)))) (congrArg (wX cs h) (by rw [su_su])) ?_
            refine r_iinc (pc := 40) C 5 0 [(2, .int 5), (0, .ref (h 1)), (1, .ref (h 25))] dX0_copyFrom_40 rfl ((by decide)) (by decide) rfl ?_
            refine r_goto (pc := 43) C 16 dX0_copyFrom_43 (by decide) ?_
            refine r_iload_n (pc := 16) C 0 dX0_copyFrom_16 rfl rfl ?_
            refine r_iconst (pc := 17) C 5 dX0_copyFrom_17 (by decide) ?_
            refine r_icmp_ge (pc := 18) C 46 dX0_copyFrom_18 (by decide) (fun c_6 => ?_) (fun c_6 => ?_)
            · skip
              revert c_6; intro c_6
              refine r_aload_n (pc := 46) C 1 dX0_copyFrom_46 rfl rfl ?_
              refine r_aload_n (pc := 47) C 2 dX0_copyFrom_47 rfl rfl ?_
              refine xg_count_3 (pc := 48) C fl_RX0_38 dX0_copyFrom_48 (σ 3 0) (congrFun ((su_nn (by decide))) 0) ?_
              refine xp_count_0 (pc := 51) C fl_RX0_38 dX0_copyFrom_51 (cpC 5 (σ 3) (σ 0)) (su_at) ?_
              refine r_blk (blk' := wX cs h (su σ 0 (upd (cpC 5 (σ 3) (σ 0)) 0 (σ 3 0)))) (congrArg (wX cs h) (by rw [su_su])) ?_
              refine r_aload_n (pc := 54) C 1 dX0_copyFrom_54 rfl rfl ?_
              refine r_aload_n (pc := 55) C 2 dX0_copyFrom_55 rfl rfl ?_
              refine xg_dayNumber_3 (pc := 56) C fl_RX0_41 dX0_copyFrom_56 (σ 3 1) (congrFun ((su_nn (by decide))) 1) ?_
              refine xp_dayNumber_0 (pc := 59) C fl_RX0_41 dX0_copyFrom_59 (upd (cpC 5 (σ 3) (σ 0)) 0 (σ 3 0)) (su_at) ?_
              refine r_blk (blk' := wX cs h (su σ 0 (upd (upd (cpC 5 (σ 3) (σ 0)) 0 (σ 3 0)) 1 (σ 3 1)))) (congrArg (wX cs h) (by rw [su_su])) ?_
              refine r_aload_n (pc := 62) C 1 dX0_copyFrom_62 rfl rfl ?_
              refine r_aload_n (pc := 63) C 2 dX0_copyFrom_63 rfl rfl ?_
              refine xg_chest_3 (pc := 64) C fl_RX0_44 dX0_copyFrom_64 (σ 3 3) (congrFun ((su_nn (by decide))) 3) ?_
              refine xp_chest_0 (pc := 67) C fl_RX0_44 dX0_copyFrom_67 (upd (upd (cpC 5 (σ 3) (σ 0)) 0 (σ 3 0)) 1 (σ 3 1)) (su_at) ?_
              refine r_blk (blk' := wX cs h (su σ 0 (upd (upd (upd (cpC 5 (σ 3) (σ 0)) 0 (σ 3 0)) 1 (σ 3 1)) 3 (σ 3 3)))) (congrArg (wX cs h) (by rw [su_su])) ?_
              refine r_aload_n (pc := 70) C 1 dX0_copyFrom_70 rfl rfl ?_
              refine r_aload_n (pc := 71) C 2 dX0_copyFrom_71 rfl rfl ?_
              refine xg_z_3 (pc := 72) C fl_RX0_28 dX0_copyFrom_72 (σ 3 2) (congrFun ((su_nn (by decide))) 2) ?_
              refine xp_z_0 (pc := 75) C fl_RX0_28 dX0_copyFrom_75 (upd (upd (upd (cpC 5 (σ 3) (σ 0)) 0 (σ 3 0)) 1 (σ 3 1)) 3 (σ 3 3)) (su_at) ?_
              refine r_blk (blk' := wX cs h (su σ 0 (upd (upd (upd (upd (cpC 5 (σ 3) (σ 0)) 0 (σ 3 0)) 1 (σ 3 1)) 3 (σ 3 3)) 2 (σ 3 2)))) (congrArg (wX cs h) (by rw [su_su])) ?_
              refine r_blk (blk' := wX cs h (su σ 0 (σ 3))) (by rw [show (upd (upd (upd (upd (cpC 5 (σ 3) (σ 0)) 0 (σ 3 0)) 1 (σ 3 1)) 3 (σ 3 3)) 2 (σ 3 2) : Nat → Int32) = σ 3 from (cp_all _ _)] <;> rfl) ?_
              exact r_vret (pc := 78) C hr hlk dX0_copyFrom_78 rfl
            · skip
              revert c_6; intro c_6
              exact absurd c_6 (by decide)
theorem t_X0_copyFrom_3_0' (l : Launch) (ad : Nat → Nat) (D : va_G) (cs : Nat → ClassId) (h : Nat → Nat) (σ : Nat → Nat → Int32) (pre post : va_W) (f3_ : Nat → Int32) (e3_ : σ 3 = f3_)   : CTv l yX0_copyFrom cX0_copyFrom 3 ({ frames := 1, cells := 0, slots := 0, locals := 49 }) ad D (tysW cs) (pre ++ (wX cs h σ ++ post)) [.ref (h 1), .ref (h 25)] (pre ++ (wX cs h (su σ 0 (f3_)) ++ post)) := by
  subst e3_
  exact t_X0_copyFrom_3_0 l ad D cs h σ pre post  
set_option maxHeartbeats 400000 in
set_option maxRecDepth 20000 in
theorem t_X0_copyFrom_0_1 (l : Launch) (ad : Nat → Nat) (D : va_G) (cs : Nat → ClassId) (h : Nat → Nat) (σ : Nat → Nat → Int32) (pre post : va_W)   : CTv l yX0_copyFrom cX0_copyFrom 3 ({ frames := 1, cells := 0, slots := 0, locals := 49 }) ad D (tysW cs) (pre ++ (wX cs h σ ++ post)) [.ref (h 17), .ref (h 1)] (pre ++ (wX cs h (su σ 1 (σ 0)) ++ post)) := by
  refine CTv.of (lv0 := [(0, .ref (h 17)), (1, .ref (h 1))]) (by decide) rfl (Nat.le_of_ble_eq_true rfl) (fun p e s m args below meth c A C hr hlk => ?_)
  have C : Cx p s m args c cX0_copyFrom 3 RX0 ad D (tysW cs) A := C
  refine r_aload_n (pc := 0) C 1 dX0_copyFrom_0 rfl rfl ?_
  refine xg_laws_0 (pc := 1) C fl_RX0_18 dX0_copyFrom_1 ?_
  refine r_iconst (pc := 4) C 0 dX0_copyFrom_4 (by decide) ?_
  refine r_aload_n (pc := 5) C 0 dX0_copyFrom_5 rfl rfl ?_
  refine xg_laws_1 (pc := 6) C fl_RX0_18 dX0_copyFrom_6 ?_
  refine r_iconst (pc := 9) C 0 dX0_copyFrom_9 (by decide) ?_
  refine r_iconst (pc := 10) C 4 dX0_copyFrom_10 (by decide) ?_
  refine xc_laws_0_1 (pc := 11) C ml_RX0_32' (Nat.le_of_ble_eq_true rfl) (Nat.le_of_ble_eq_true rfl) (Nat.le_of_ble_eq_true rfl) dX0_copyFrom_11 (σ 0) (σ 1) (rfl) (rfl) ?_
  refine r_iconst (pc := 14) C 0 dX0_copyFrom_14 (by decide) ?_
  refine r_istore_n (pc := 15) C [(2, .int 0), (0, .ref (h 17)), (1, .ref (h 1))] dX0_copyFrom_15 rfl (by decide) rfl ?_
  refine r_iload_n (pc := 16) C 0 dX0_copyFrom_16 rfl rfl ?_
  refine r_iconst (pc := 17) C 5 dX0_copyFrom_17 (by decide) ?_
  refine r_icmp_ge (pc := 18) C 46 dX0_copyFrom_18 (by decide) (fun c_1 => ?_) (fun c_1 => ?_)
  · skip
    revert c_1; intro c_1
    exact absurd c_1 (by decide)
  · skip
    revert c_1; intro c_1
    refine r_aload_n (pc := 21) C 2 dX0_copyFrom_21 rfl rfl ?_
    refine xg_has_0 (pc := 22) C fl_RX0_25 dX0_copyFrom_22 ?_
    refine r_iload_n (pc := 25) C 0 dX0_copyFrom_25 rfl rfl ?_
    refine xa_has_0 (pc := 26) C 0 (rfl) (by omega) dX0_copyFrom_26 ?_
    refine r_iconst (pc := 27) C 0 dX0_copyFrom_27 (by decide) ?_
    refine r_aload_n (pc := 28) C 1 dX0_copyFrom_28 rfl rfl ?_
    refine xg_has_1 (pc := 29) C fl_RX0_25 dX0_copyFrom_29 ?_
    refine r_iload_n (pc := 32) C 0 dX0_copyFrom_32 rfl rfl ?_
    refine xa_has_1 (pc := 33) C 0 (rfl) (by omega) dX0_copyFrom_33 ?_
    refine r_iconst (pc := 34) C 0 dX0_copyFrom_34 (by decide) ?_
    refine r_bipush (pc := 35) C 8 dX0_copyFrom_35 (by decide) ?_
    refine xc_col0_0_1 (pc := 37) C ml_RX0_32' (Nat.le_of_ble_eq_true rfl) (Nat.le_of_ble_eq_true rfl) (Nat.le_of_ble_eq_true rfl) dX0_copyFrom_37 (σ 0) (σ 1) ((su_nn (by decide))) (su_at) ?_
    refine r_blk (blk' := wX cs h (su σ 1 (cpC 1 (σ 0) (σ 1)))) (congrArg (wX cs h) (by rw [su_su])) ?_
    refine r_iinc (pc := 40) C 1 0 [(2, .int 1), (0, .ref (h 17)), (1, .ref (h 1))] dX0_copyFrom_40 rfl ((by decide)) (by decide) rfl ?_
    refine r_goto (pc := 43) C 16 dX0_copyFrom_43 (by decide) ?_
    refine r_iload_n (pc := 16) C 0 dX0_copyFrom_16 rfl rfl ?_
    refine r_iconst (pc := 17) C 5 dX0_copyFrom_17 (by decide) ?_
    refine r_icmp_ge (pc := 18) C 46 dX0_copyFrom_18 (by decide) (fun c_2 => ?_) (fun c_2 => ?_)
    · skip
      revert c_2; intro c_2
      exact absurd c_2 (by decide)
    · skip
      revert c_2; intro c_2
      refine r_aload_n (pc := 21) C 2 dX0_copyFrom_21 rfl rfl ?_
      refine xg_has_0 (pc := 22) C fl_RX0_25 dX0_copyFrom_22 ?_
      refine r_iload_n (pc := 25) C 0 dX0_copyFrom_25 rfl rfl ?_
      refine xa_has_0 (pc := 26) C 1 (rfl) (by omega) dX0_copyFrom_26 ?_
      refine r_iconst (pc := 27) C 0 dX0_copyFrom_27 (by decide) ?_
      refine r_aload_n (pc := 28) C 1 dX0_copyFrom_28 rfl rfl ?_
      refine xg_has_1 (pc := 29) C fl_RX0_25 dX0_copyFrom_29 ?_
      refine r_iload_n (pc := 32) C 0 dX0_copyFrom_32 rfl rfl ?_
      refine xa_has_1 (pc := 33) C 1 (rfl) (by omega) dX0_copyFrom_33 ?_
      refine r_iconst (pc := 34) C 0 dX0_copyFrom_34 (by decide) ?_
      refine r_bipush (pc := 35) C 8 dX0_copyFrom_35 (by decide) ?_
      refine xc_col1_0_1 (pc := 37) C ml_RX0_32' (Nat.le_of_ble_eq_true rfl) (Nat.le_of_ble_eq_true rfl) (Nat.le_of_ble_eq_true rfl) dX0_copyFrom_37 (σ 0) (σ 1) ((su_nn (by decide))) (su_at) ?_
      refine r_blk (blk' := wX cs h (su σ 1 (cpC 2 (σ 0) (σ 1)))) (congrArg (wX cs h) (by rw [su_su])) ?_
      refine r_iinc (pc := 40) C 2 0 [(2, .int 2), (0, .ref (h 17)), (1, .ref (h 1))] dX0_copyFrom_40 rfl ((by decide)) (by decide) rfl ?_
      refine r_goto (pc := 43) C 16 dX0_copyFrom_43 (by decide) ?_
      refine r_iload_n (pc := 16) C 0 dX0_copyFrom_16 rfl rfl ?_
      refine r_iconst (pc := 17) C 5 dX0_copyFrom_17 (by decide) ?_
      refine r_icmp_ge (pc := 18) C 46 dX0_copyFrom_18 (by decide) (fun c_3 => ?_) (fun c_3 => ?_)
      · skip
        revert c_3; intro c_3
        exact absurd c_3 (by decide)
      · skip
        revert c_3; intro c_3
        refine r_aload_n (pc := 21) C 2 dX0_copyFrom_21 rfl rfl ?_
        refine xg_has_0 (pc := 22) C fl_RX0_25 dX0_copyFrom_22 ?_
        refine r_iload_n (pc := 25) C 0 dX0_copyFrom_25 rfl rfl ?_
        refine xa_has_0 (pc := 26) C 2 (rfl) (by omega) dX0_copyFrom_26 ?_
        refine r_iconst (pc := 27) C 0 dX0_copyFrom_27 (by decide) ?_
        refine r_aload_n (pc := 28) C 1 dX0_copyFrom_28 rfl rfl ?_
        refine xg_has_1 (pc := 29) C fl_RX0_25 dX0_copyFrom_29 ?_
        refine r_iload_n (pc := 32) C 0 dX0_copyFrom_32 rfl rfl ?_
        refine xa_has_1 (pc := 33) C 2 (rfl) (by omega) dX0_copyFrom_33 ?_
        refine r_iconst (pc := 34) C 0 dX0_copyFrom_34 (by decide) ?_
        refine r_bipush (pc := 35) C 8 dX0_copyFrom_35 (by decide) ?_
        refine xc_col2_0_1 (pc := 37) C ml_RX0_32' (Nat.le_of_ble_eq_true rfl) (Nat.le_of_ble_eq_true rfl) (Nat.le_of_ble_eq_true rfl) dX0_copyFrom_37 (σ 0) (σ 1) ((su_nn (by decide))) (su_at) ?_
        refine r_blk (blk' := wX cs h (su σ 1 (cpC 3 (σ 0) (σ 1)))) (congrArg (wX cs h) (by rw [su_su])) ?_
        refine r_iinc (pc := 40) C 3 0 [(2, .int 3), (0, .ref (h 17)), (1, .ref (h 1))] dX0_copyFrom_40 rfl ((by decide)) (by decide) rfl ?_
        refine r_goto (pc := 43) C 16 dX0_copyFrom_43 (by decide) ?_
        refine r_iload_n (pc := 16) C 0 dX0_copyFrom_16 rfl rfl ?_
        refine r_iconst (pc := 17) C 5 dX0_copyFrom_17 (by decide) ?_
        refine r_icmp_ge (pc := 18) C 46 dX0_copyFrom_18 (by decide) (fun c_4 => ?_) (fun c_4 => ?_)
        · skip
          revert c_4; intro c_4
          exact absurd c_4 (by decide)
        · skip
          revert c_4; intro c_4
          refine r_aload_n (pc := 21) C 2 dX0_copyFrom_21 rfl rfl ?_
          refine xg_has_0 (pc := 22) C fl_RX0_25 dX0_copyFrom_22 ?_
          refine r_iload_n (pc := 25) C 0 dX0_copyFrom_25 rfl rfl ?_
          refine xa_has_0 (pc := 26) C 3 (rfl) (by omega) dX0_copyFrom_26 ?_
          refine r_iconst (pc := 27) C 0 dX0_copyFrom_27 (by decide) ?_
          refine r_aload_n (pc := 28) C 1 dX0_copyFrom_28 rfl rfl ?_
          refine xg_has_1 (pc := 29) C fl_RX0_25 dX0_copyFrom_29 ?_
          refine r_iload_n (pc := 32) C 0 dX0_copyFrom_32 rfl rfl ?_
          refine xa_has_1 (pc := 33) C 3 (rfl) (by omega) dX0_copyFrom_33 ?_
          refine r_iconst (pc := 34) C 0 dX0_copyFrom_34 (by decide) ?_
          refine r_bipush (pc := 35) C 8 dX0_copyFrom_35 (by decide) ?_
          refine xc_col3_0_1 (pc := 37) C ml_RX0_32' (Nat.le_of_ble_eq_true rfl) (Nat.le_of_ble_eq_true rfl) (Nat.le_of_ble_eq_true rfl) dX0_copyFrom_37 (σ 0) (σ 1) ((su_nn (by decide))) (su_at) ?_
          refine r_blk (blk' := wX cs h (su σ 1 (cpC 4 (σ 0) (σ 1)))) (congrArg (wX cs h) (by rw [su_su])) ?_
          refine r_iinc (pc := 40) C 4 0 [(2, .int 4), (0, .ref (h 17)), (1, .ref (h 1))] dX0_copyFrom_40 rfl ((by decide)) (by decide) rfl ?_
          refine r_goto (pc := 43) C 16 dX0_copyFrom_43 (by decide) ?_
          refine r_iload_n (pc := 16) C 0 dX0_copyFrom_16 rfl rfl ?_
          refine r_iconst (pc := 17) C 5 dX0_copyFrom_17 (by decide) ?_
          refine r_icmp_ge (pc := 18) C 46 dX0_copyFrom_18 (by decide) (fun c_5 => ?_) (fun c_5 => ?_)
          · skip
            revert c_5; intro c_5
            exact absurd c_5 (by decide)
          · skip
            revert c_5; intro c_5
            refine r_aload_n (pc := 21) C 2 dX0_copyFrom_21 rfl rfl ?_
            refine xg_has_0 (pc := 22) C fl_RX0_25 dX0_copyFrom_22 ?_
            refine r_iload_n (pc := 25) C 0 dX0_copyFrom_25 rfl rfl ?_
            refine xa_has_0 (pc := 26) C 4 (rfl) (by omega) dX0_copyFrom_26 ?_
            refine r_iconst (pc := 27) C 0 dX0_copyFrom_27 (by decide) ?_
            refine r_aload_n (pc := 28) C 1 dX0_copyFrom_28 rfl rfl ?_
            refine xg_has_1 (pc := 29) C fl_RX0_25 dX0_copyFrom_29 ?_
            refine r_iload_n (pc := 32) C 0 dX0_copyFrom_32 rfl rfl ?_
            refine xa_has_1 (pc := 33) C 4 (rfl) (by omega) dX0_copyFrom_33 ?_
            refine r_iconst (pc := 34) C 0 dX0_copyFrom_34 (by decide) ?_
            refine r_bipush (pc := 35) C 8 dX0_copyFrom_35 (by decide) ?_
            refine xc_col4_0_1 (pc := 37) C ml_RX0_32' (Nat.le_of_ble_eq_true rfl) (Nat.le_of_ble_eq_true rfl) (Nat.le_of_ble_eq_true rfl) dX0_copyFrom_37 (σ 0) (σ 1) ((su_nn (by decide))) (su_at) ?_
            refine r_blk (blk' := wX cs h (su σ 1 (cpC 5 (σ 0) (σ 1)))) (congrArg (wX cs h) (by rw [su_su])) ?_
            refine r_iinc (pc := 40) C 5 0 [(2, .int 5), (0, .ref (h 17)), (1, .ref (h 1))] dX0_copyFrom_40 rfl ((by decide)) (by decide) rfl ?_
            refine r_goto (pc := 43) C 16 dX0_copyFrom_43 (by decide) ?_
            refine r_iload_n (pc := 16) C 0 dX0_copyFrom_16 rfl rfl ?_
            refine r_iconst (pc := 17) C 5 dX0_copyFrom_17 (by decide) ?_
            refine r_icmp_ge (pc := 18) C 46 dX0_copyFrom_18 (by decide) (fun c_6 => ?_) (fun c_6 => ?_)
            · skip
              revert c_6; intro c_6
              refine r_aload_n (pc := 46) C 1 dX0_copyFrom_46 rfl rfl ?_
              refine r_aload_n (pc := 47) C 2 dX0_copyFrom_47 rfl rfl ?_
              refine xg_count_0 (pc := 48) C fl_RX0_38 dX0_copyFrom_48 (σ 0 0) (congrFun ((su_nn (by decide))) 0) ?_
              refine xp_count_1 (pc := 51) C fl_RX0_38 dX0_copyFrom_51 (cpC 5 (σ 0) (σ 1)) (su_at) ?_
              refine r_blk (blk' := wX cs h (su σ 1 (upd (cpC 5 (σ 0) (σ 1)) 0 (σ 0 0)))) (congrArg (wX cs h) (by rw [su_su])) ?_
              refine r_aload_n (pc := 54) C 1 dX0_copyFrom_54 rfl rfl ?_
              refine r_aload_n (pc := 55) C 2 dX0_copyFrom_55 rfl rfl ?_
              refine xg_dayNumber_0 (pc := 56) C fl_RX0_41 dX0_copyFrom_56 (σ 0 1) (congrFun ((su_nn (by decide))) 1) ?_
              refine xp_dayNumber_1 (pc := 59) C fl_RX0_41 dX0_copyFrom_59 (upd (cpC 5 (σ 0) (σ 1)) 0 (σ 0 0)) (su_at) ?_
              refine r_blk (blk' := wX cs h (su σ 1 (upd (upd (cpC 5 (σ 0) (σ 1)) 0 (σ 0 0)) 1 (σ 0 1)))) (congrArg (wX cs h) (by rw [su_su])) ?_
              refine r_aload_n (pc := 62) C 1 dX0_copyFrom_62 rfl rfl ?_
              refine r_aload_n (pc := 63) C 2 dX0_copyFrom_63 rfl rfl ?_
              refine xg_chest_0 (pc := 64) C fl_RX0_44 dX0_copyFrom_64 (σ 0 3) (congrFun ((su_nn (by decide))) 3) ?_
              refine xp_chest_1 (pc := 67) C fl_RX0_44 dX0_copyFrom_67 (upd (upd (cpC 5 (σ 0) (σ 1)) 0 (σ 0 0)) 1 (σ 0 1)) (su_at) ?_
              refine r_blk (blk' := wX cs h (su σ 1 (upd (upd (upd (cpC 5 (σ 0) (σ 1)) 0 (σ 0 0)) 1 (σ 0 1)) 3 (σ 0 3)))) (congrArg (wX cs h) (by rw [su_su])) ?_
              refine r_aload_n (pc := 70) C 1 dX0_copyFrom_70 rfl rfl ?_
              refine r_aload_n (pc := 71) C 2 dX0_copyFrom_71 rfl rfl ?_
              refine xg_z_0 (pc := 72) C fl_RX0_28 dX0_copyFrom_72 (σ 0 2) (congrFun ((su_nn (by decide))) 2) ?_
              refine xp_z_1 (pc := 75) C fl_RX0_28 dX0_copyFrom_75 (upd (upd (upd (cpC 5 (σ 0) (σ 1)) 0 (σ 0 0)) 1 (σ 0 1)) 3 (σ 0 3)) (su_at) ?_
              refine r_blk (blk' := wX cs h (su σ 1 (upd (upd (upd (upd (cpC 5 (σ 0) (σ 1)) 0 (σ 0 0)) 1 (σ 0 1)) 3 (σ 0 3)) 2 (σ 0 2)))) (congrArg (wX cs h) (by rw [su_su])) ?_
              refine r_blk (blk' := wX cs h (su σ 1 (σ 0))) (by rw [show (upd (upd (upd (upd (cpC 5 (σ 0) (σ 1)) 0 (σ 0 0)) 1 (σ 0 1)) 3 (σ 0 3)) 2 (σ 0 2) : Nat → Int32) = σ 0 from (cp_all _ _)] <;> rfl) ?_
              exact r_vret (pc := 78) C hr hlk dX0_copyFrom_78 rfl
            · skip
              revert c_6; intro c_6
              exact absurd c_6 (by decide)
theorem t_X0_copyFrom_0_1' (l : Launch) (ad : Nat → Nat) (D : va_G) (cs : Nat → ClassId) (h : Nat → Nat) (σ : Nat → Nat → Int32) (pre post : va_W) (f0_ : Nat → Int32) (e0_ : σ 0 = f0_)   : CTv l yX0_copyFrom cX0_copyFrom 3 ({ frames := 1, cells := 0, slots := 0, locals := 49 }) ad D (tysW cs) (pre ++ (wX cs h σ ++ post)) [.ref (h 17), .ref (h 1)] (pre ++ (wX cs h (su σ 1 f0_) ++ post)) := by
  subst e0_
  exact t_X0_copyFrom_0_1 l ad D cs h σ pre post  
set_option maxHeartbeats 400000 in
set_option maxRecDepth 20000 in
theorem t_X0_copyFrom_1_0 (l : Launch) (ad : Nat → Nat) (D : va_G) (cs : Nat → ClassId) (h : Nat → Nat) (σ : Nat → Nat → Int32) (pre post : va_W)   : CTv l yX0_copyFrom cX0_copyFrom 3 ({ frames := 1, cells := 0, slots := 0, locals := 49 }) ad D (tysW cs) (pre ++ (wX cs h σ ++ post)) [.ref (h 1), .ref (h 17)] (pre ++ (wX cs h (su σ 0 (σ 1)) ++ post)) := by
  refine CTv.of (lv0 := [(0, .ref (h 1)), (1, .ref (h 17))]) (by decide) rfl (Nat.le_of_ble_eq_true rfl) (fun p e s m args below meth c A C hr hlk => ?_)
  have C : Cx p s m args c cX0_copyFrom 3 RX0 ad D (tysW cs) A := C
  refine r_aload_n (pc := 0) C 1 dX0_copyFrom_0 rfl rfl ?_
  refine xg_laws_1 (pc := 1) C fl_RX0_18 dX0_copyFrom_1 ?_
  refine r_iconst (pc := 4) C 0 dX0_copyFrom_4 (by decide) ?_
  refine r_aload_n (pc := 5) C 0 dX0_copyFrom_5 rfl rfl ?_
  refine xg_laws_0 (pc := 6) C fl_RX0_18 dX0_copyFrom_6 ?_
  refine r_iconst (pc := 9) C 0 dX0_copyFrom_9 (by decide) ?_
  refine r_iconst (pc := 10) C 4 dX0_copyFrom_10 (by decide) ?_
  refine xc_laws_1_0 (pc := 11) C ml_RX0_32' (Nat.le_of_ble_eq_true rfl) (Nat.le_of_ble_eq_true rfl) (Nat.le_of_ble_eq_true rfl) dX0_copyFrom_11 (σ 1) (σ 0) (rfl) (rfl) ?_
  refine r_iconst (pc := 14) C 0 dX0_copyFrom_14 (by decide) ?_
  refine r_istore_n (pc := 15) C [(2, .int 0), (0, .ref (h 1)), (1, .ref (h 17))] dX0_copyFrom_15 rfl (by decide) rfl ?_
  refine r_iload_n (pc := 16) C 0 dX0_copyFrom_16 rfl rfl ?_
  refine r_iconst (pc := 17) C 5 dX0_copyFrom_17 (by decide) ?_
  refine r_icmp_ge (pc := 18) C 46 dX0_copyFrom_18 (by decide) (fun c_1 => ?_) (fun c_1 => ?_)
  · skip
    revert c_1; intro c_1
    exact absurd c_1 (by decide)
  · skip
    revert c_1; intro c_1
    refine r_aload_n (pc := 21) C 2 dX0_copyFrom_21 rfl rfl ?_
    refine xg_has_1 (pc := 22) C fl_RX0_25 dX0_copyFrom_22 ?_
    refine r_iload_n (pc := 25) C 0 dX0_copyFrom_25 rfl rfl ?_
    refine xa_has_1 (pc := 26) C 0 (rfl) (by omega) dX0_copyFrom_26 ?_
    refine r_iconst (pc := 27) C 0 dX0_copyFrom_27 (by decide) ?_
    refine r_aload_n (pc := 28) C 1 dX0_copyFrom_28 rfl rfl ?_
    refine xg_has_0 (pc := 29) C fl_RX0_25 dX0_copyFrom_29 ?_
    refine r_iload_n (pc := 32) C 0 dX0_copyFrom_32 rfl rfl ?_
    refine xa_has_0 (pc := 33) C 0 (rfl) (by omega) dX0_copyFrom_33 ?_
    refine r_iconst (pc := 34) C 0 dX0_copyFrom_34 (by decide) ?_
    refine r_bipush (pc := 35) C 8 dX0_copyFrom_35 (by decide) ?_
    refine xc_col0_1_0 (pc := 37) C ml_RX0_32' (Nat.le_of_ble_eq_true rfl) (Nat.le_of_ble_eq_true rfl) (Nat.le_of_ble_eq_true rfl) dX0_copyFrom_37 (σ 1) (σ 0) ((su_nn (by decide))) (su_at) ?_
    refine r_blk (blk' := wX cs h (su σ 0 (cpC 1 (σ 1) (σ 0)))) (congrArg (wX cs h) (by rw [su_su])) ?_
    refine r_iinc (pc := 40) C 1 0 [(2, .int 1), (0, .ref (h 1)), (1, .ref (h 17))] dX0_copyFrom_40 rfl ((by decide)) (by decide) rfl ?_
    refine r_goto (pc := 43) C 16 dX0_copyFrom_43 (by decide) ?_
    refine r_iload_n (pc := 16) C 0 dX0_copyFrom_16 rfl rfl ?_
    refine r_iconst (pc := 17) C 5 dX0_copyFrom_17 (by decide) ?_
    refine r_icmp_ge (pc := 18) C 46 dX0_copyFrom_18 (by decide) (fun c_2 => ?_) (fun c_2 => ?_)
    · skip
      revert c_2; intro c_2
      exact absurd c_2 (by decide)
    · skip
      revert c_2; intro c_2
      refine r_aload_n (pc := 21) C 2 dX0_copyFrom_21 rfl rfl ?_
      refine xg_has_1 (pc := 22) C fl_RX0_25 dX0_copyFrom_22 ?_
      refine r_iload_n (pc := 25) C 0 dX0_copyFrom_25 rfl rfl ?_
      refine xa_has_1 (pc := 26) C 1 (rfl) (by omega) dX0_copyFrom_26 ?_
      refine r_iconst (pc := 27) C 0 dX0_copyFrom_27 (by decide) ?_
      refine r_aload_n (pc := 28) C 1 dX0_copyFrom_28 rfl rfl ?_
      refine xg_has_0 (pc := 29) C fl_RX0_25 dX0_copyFrom_29 ?_
      refine r_iload_n (pc := 32) C 0 dX0_copyFrom_32 rfl rfl ?_
      refine xa_has_0 (pc := 33) C 1 (rfl) (by omega) dX0_copyFrom_33 ?_
      refine r_iconst (pc := 34) C 0 dX0_copyFrom_34 (by decide) ?_
      refine r_bipush (pc := 35) C 8 dX0_copyFrom_35 (by decide) ?_
      refine xc_col1_1_0 (pc := 37) C ml_RX0_32' (Nat.le_of_ble_eq_true rfl) (Nat.le_of_ble_eq_true rfl) (Nat.le_of_ble_eq_true rfl) dX0_copyFrom_37 (σ 1) (σ 0) ((su_nn (by decide))) (su_at) ?_
      refine r_blk (blk' := wX cs h (su σ 0 (cpC 2 (σ 1) (σ 0)))) (congrArg (wX cs h) (by rw [su_su])) ?_
      refine r_iinc (pc := 40) C 2 0 [(2, .int 2), (0, .ref (h 1)), (1, .ref (h 17))] dX0_copyFrom_40 rfl ((by decide)) (by decide) rfl ?_
      refine r_goto (pc := 43) C 16 dX0_copyFrom_43 (by decide) ?_
      refine r_iload_n (pc := 16) C 0 dX0_copyFrom_16 rfl rfl ?_
      refine r_iconst (pc := 17) C 5 dX0_copyFrom_17 (by decide) ?_
      refine r_icmp_ge (pc := 18) C 46 dX0_copyFrom_18 (by decide) (fun c_3 => ?_) (fun c_3 => ?_)
      · skip
        revert c_3; intro c_3
        exact absurd c_3 (by decide)
      · skip
        revert c_3; intro c_3
        refine r_aload_n (pc := 21) C 2 dX0_copyFrom_21 rfl rfl ?_
        refine xg_has_1 (pc := 22) C fl_RX0_25 dX0_copyFrom_22 ?_
        refine r_iload_n (pc := 25) C 0 dX0_copyFrom_25 rfl rfl ?_
        refine xa_has_1 (pc := 26) C 2 (rfl) (by omega) dX0_copyFrom_26 ?_
        refine r_iconst (pc := 27) C 0 dX0_copyFrom_27 (by decide) ?_
        refine r_aload_n (pc := 28) C 1 dX0_copyFrom_28 rfl rfl ?_
        refine xg_has_0 (pc := 29) C fl_RX0_25 dX0_copyFrom_29 ?_
        refine r_iload_n (pc := 32) C 0 dX0_copyFrom_32 rfl rfl ?_
        refine xa_has_0 (pc := 33) C 2 (rfl) (by omega) dX0_copyFrom_33 ?_
        refine r_iconst (pc := 34) C 0 dX0_copyFrom_34 (by decide) ?_
        refine r_bipush (pc := 35) C 8 dX0_copyFrom_35 (by decide) ?_
        refine xc_col2_1_0 (pc := 37) C ml_RX0_32' (Nat.le_of_ble_eq_true rfl) (Nat.le_of_ble_eq_true rfl) (Nat.le_of_ble_eq_true rfl) dX0_copyFrom_37 (σ 1) (σ 0) ((su_nn (by decide))) (su_at) ?_
        refine r_blk (blk' := wX cs h (su σ 0 (cpC 3 (σ 1) (σ 0)))) (congrArg (wX cs h) (by rw [su_su])) ?_
        refine r_iinc (pc := 40) C 3 0 [(2, .int 3), (0, .ref (h 1)), (1, .ref (h 17))] dX0_copyFrom_40 rfl ((by decide)) (by decide) rfl ?_
        refine r_goto (pc := 43) C 16 dX0_copyFrom_43 (by decide) ?_
        refine r_iload_n (pc := 16) C 0 dX0_copyFrom_16 rfl rfl ?_
        refine r_iconst (pc := 17) C 5 dX0_copyFrom_17 (by decide) ?_
        refine r_icmp_ge (pc := 18) C 46 dX0_copyFrom_18 (by decide) (fun c_4 => ?_) (fun c_4 => ?_)
        · skip
          revert c_4; intro c_4
          exact absurd c_4 (by decide)
        · skip
          revert c_4; intro c_4
          refine r_aload_n (pc := 21) C 2 dX0_copyFrom_21 rfl rfl ?_
          refine xg_has_1 (pc := 22) C fl_RX0_25 dX0_copyFrom_22 ?_
          refine r_iload_n (pc := 25) C 0 dX0_copyFrom_25 rfl rfl ?_
          refine xa_has_1 (pc := 26) C 3 (rfl) (by omega) dX0_copyFrom_26 ?_
          refine r_iconst (pc := 27) C 0 dX0_copyFrom_27 (by decide) ?_
          refine r_aload_n (pc := 28) C 1 dX0_copyFrom_28 rfl rfl ?_
          refine xg_has_0 (pc := 29) C fl_RX0_25 dX0_copyFrom_29 ?_
          refine r_iload_n (pc := 32) C 0 dX0_copyFrom_32 rfl rfl ?_
          refine xa_has_0 (pc := 33) C 3 (rfl) (by omega) dX0_copyFrom_33 ?_
          refine r_iconst (pc := 34) C 0 dX0_copyFrom_34 (by decide) ?_
          refine r_bipush (pc := 35) C 8 dX0_copyFrom_35 (by decide) ?_
          refine xc_col3_1_0 (pc := 37) C ml_RX0_32' (Nat.le_of_ble_eq_true rfl) (Nat.le_of_ble_eq_true rfl) (Nat.le_of_ble_eq_true rfl) dX0_copyFrom_37 (σ 1) (σ 0) ((su_nn (by decide))) (su_at) ?_
          refine r_blk (blk' := wX cs h (su σ 0 (cpC 4 (σ 1) (σ 0)))) (congrArg (wX cs h) (by rw [su_su])) ?_
          refine r_iinc (pc := 40) C 4 0 [(2, .int 4), (0, .ref (h 1)), (1, .ref (h 17))] dX0_copyFrom_40 rfl ((by decide)) (by decide) rfl ?_
          refine r_goto (pc := 43) C 16 dX0_copyFrom_43 (by decide) ?_
          refine r_iload_n (pc := 16) C 0 dX0_copyFrom_16 rfl rfl ?_
          refine r_iconst (pc := 17) C 5 dX0_copyFrom_17 (by decide) ?_
          refine r_icmp_ge (pc := 18) C 46 dX0_copyFrom_18 (by decide) (fun c_5 => ?_) (fun c_5 => ?_)
          · skip
            revert c_5; intro c_5
            exact absurd c_5 (by decide)
          · skip
            revert c_5; intro c_5
            refine r_aload_n (pc := 21) C 2 dX0_copyFrom_21 rfl rfl ?_
            refine xg_has_1 (pc := 22) C fl_RX0_25 dX0_copyFrom_22 ?_
            refine r_iload_n (pc := 25) C 0 dX0_copyFrom_25 rfl rfl ?_
            refine xa_has_1 (pc := 26) C 4 (rfl) (by omega) dX0_copyFrom_26 ?_
            refine r_iconst (pc := 27) C 0 dX0_copyFrom_27 (by decide) ?_
            refine r_aload_n (pc := 28) C 1 dX0_copyFrom_28 rfl rfl ?_
            refine xg_has_0 (pc := 29) C fl_RX0_25 dX0_copyFrom_29 ?_
            refine r_iload_n (pc := 32) C 0 dX0_copyFrom_32 rfl rfl ?_
            refine xa_has_0 (pc := 33) C 4 (rfl) (by omega) dX0_copyFrom_33 ?_
            refine r_iconst (pc := 34) C 0 dX0_copyFrom_34 (by decide) ?_
            refine r_bipush (pc := 35) C 8 dX0_copyFrom_35 (by decide) ?_
            refine xc_col4_1_0 (pc := 37) C ml_RX0_32' (Nat.le_of_ble_eq_true rfl) (Nat.le_of_ble_eq_true rfl) (Nat.le_of_ble_eq_true rfl) dX0_copyFrom_37 (σ 1) (σ 0) ((su_nn (by decide))) (su_at) ?_
            refine r_blk (blk' := wX cs h (su σ 0 (cpC 5 (σ 1) (σ 0)))) (congrArg (wX cs h) (by rw [su_su])) ?_
            refine r_iinc (pc := 40) C 5 0 [(2, .int 5), (0, .ref (h 1)), (1, .ref (h 17))] dX0_copyFrom_40 rfl ((by decide)) (by decide) rfl ?_
            refine r_goto (pc := 43) C 16 dX0_copyFrom_43 (by decide) ?_
            refine r_iload_n (pc := 16) C 0 dX0_copyFrom_16 rfl rfl ?_
            refine r_iconst (pc := 17) C 5 dX0_copyFrom_17 (by decide) ?_
            refine r_icmp_ge (pc := 18) C 46 dX0_copyFrom_18 (by decide) (fun c_6 => ?_) (fun c_6 => ?_)
            · skip
              revert c_6; intro c_6
              refine r_aload_n (pc := 46) C 1 dX0_copyFrom_46 rfl rfl ?_
              refine r_aload_n (pc := 47) C 2 dX0_copyFrom_47 rfl rfl ?_
              refine xg_count_1 (pc := 48) C fl_RX0_38 dX0_copyFrom_48 (σ 1 0) (congrFun ((su_nn (by decide))) 0) ?_
              refine xp_count_0 (pc := 51) C fl_RX0_38 dX0_copyFrom_51 (cpC 5 (σ 1) (σ 0)) (su_at) ?_
              refine r_blk (blk' := wX cs h (su σ 0 (upd (cpC 5 (σ 1) (σ 0)) 0 (σ 1 0)))) (congrArg (wX cs h) (by rw [su_su])) ?_
              refine r_aload_n (pc := 54) C 1 dX0_copyFrom_54 rfl rfl ?_
              refine r_aload_n (pc := 55) C 2 dX0_copyFrom_55 rfl rfl ?_
              refine xg_dayNumber_1 (pc := 56) C fl_RX0_41 dX0_copyFrom_56 (σ 1 1) (congrFun ((su_nn (by decide))) 1) ?_
              refine xp_dayNumber_0 (pc := 59) C fl_RX0_41 dX0_copyFrom_59 (upd (cpC 5 (σ 1) (σ 0)) 0 (σ 1 0)) (su_at) ?_
              refine r_blk (blk' := wX cs h (su σ 0 (upd (upd (cpC 5 (σ 1) (σ 0)) 0 (σ 1 0)) 1 (σ 1 1)))) (congrArg (wX cs h) (by rw [su_su])) ?_
              refine r_aload_n (pc := 62) C 1 dX0_copyFrom_62 rfl rfl ?_
              refine r_aload_n (pc := 63) C 2 dX0_copyFrom_63 rfl rfl ?_
              refine xg_chest_1 (pc := 64) C fl_RX0_44 dX0_copyFrom_64 (σ 1 3) (congrFun ((su_nn (by decide))) 3) ?_
              refine xp_chest_0 (pc := 67) C fl_RX0_44 dX0_copyFrom_67 (upd (upd (cpC 5 (σ 1) (σ 0)) 0 (σ 1 0)) 1 (σ 1 1)) (su_at) ?_
              refine r_blk (blk' := wX cs h (su σ 0 (upd (upd (upd (cpC 5 (σ 1) (σ 0)) 0 (σ 1 0)) 1 (σ 1 1)) 3 (σ 1 3)))) (congrArg (wX cs h) (by rw [su_su])) ?_
              refine r_aload_n (pc := 70) C 1 dX0_copyFrom_70 rfl rfl ?_
              refine r_aload_n (pc := 71) C 2 dX0_copyFrom_71 rfl rfl ?_
              refine xg_z_1 (pc := 72) C fl_RX0_28 dX0_copyFrom_72 (σ 1 2) (congrFun ((su_nn (by decide))) 2) ?_
              refine xp_z_0 (pc := 75) C fl_RX0_28 dX0_copyFrom_75 (upd (upd (upd (cpC 5 (σ 1) (σ 0)) 0 (σ 1 0)) 1 (σ 1 1)) 3 (σ 1 3)) (su_at) ?_
              refine r_blk (blk' := wX cs h (su σ 0 (upd (upd (upd (upd (cpC 5 (σ 1) (σ 0)) 0 (σ 1 0)) 1 (σ 1 1)) 3 (σ 1 3)) 2 (σ 1 2)))) (congrArg (wX cs h) (by rw [su_su])) ?_
              refine r_blk (blk' := wX cs h (su σ 0 (σ 1))) (by rw [show (upd (upd (upd (upd (cpC 5 (σ 1) (σ 0)) 0 (σ 1 0)) 1 (σ 1 1)) 3 (σ 1 3)) 2 (σ 1 2) : Nat → Int32) = σ 1 from (cp_all _ _)] <;> rfl) ?_
              exact r_vret (pc := 78) C hr hlk dX0_copyFrom_78 rfl
            · skip
              revert c_6; intro c_6
              exact absurd c_6 (by decide)
theorem t_X0_copyFrom_1_0' (l : Launch) (ad : Nat → Nat) (D : va_G) (cs : Nat → ClassId) (h : Nat → Nat) (σ : Nat → Nat → Int32) (pre post : va_W) (f1_ : Nat → Int32) (e1_ : σ 1 = f1_)   : CTv l yX0_copyFrom cX0_copyFrom 3 ({ frames := 1, cells := 0, slots := 0, locals := 49 }) ad D (tysW cs) (pre ++ (wX cs h σ ++ post)) [.ref (h 1), .ref (h 17)] (pre ++ (wX cs h (su σ 0 (f1_)) ++ post)) := by
  subst e1_
  exact t_X0_copyFrom_1_0 l ad D cs h σ pre post  
theorem dX5_isLaw_0 : decode cX5_isLaw 0 = .ok (.iload_n 0, 1) := by decide +kernel
theorem dX5_isLaw_1 : decode cX5_isLaw 1 = .ok (.iconst 0, 1) := by decide +kernel
theorem dX5_isLaw_2 : decode cX5_isLaw 2 = .ok (.iconst 3, 1) := by decide +kernel
theorem dX5_isLaw_3 : decode cX5_isLaw 3 = .ok (.invokestatic 59, 3) := by decide +kernel
theorem dX5_isLaw_6 : decode cX5_isLaw 6 = .ok (.ireturn, 1) := by decide +kernel
set_option maxHeartbeats 400000 in
set_option maxRecDepth 20000 in
theorem t_X5_isLaw (l : Launch) (ad : Nat → Nat) (D : va_G) (tys : List (ClassId × FieldType)) (bk : va_W) (pre post : va_W) (x : Int32)  : CTi l yX5_isLaw cX5_isLaw 1 .boolean ({ frames := 1, cells := 0, slots := 0, locals := 22 }) ad D tys (pre ++ (bk ++ post)) [.int x] (bI (inB x 0 3 = true)) (pre ++ (bk ++ post)) := by
  refine CTi.of (lv0 := [(0, .int x)]) (by decide) rfl (Nat.le_of_ble_eq_true rfl) (fun p e s m args below meth c A C hr hlk => ?_)
  have C : Cx p s m args c cX5_isLaw 1 RX5 ad D tys A := C
  refine r_iload_n (pc := 0) C 0 dX5_isLaw_0 rfl rfl ?_
  refine r_iconst (pc := 1) C 0 dX5_isLaw_1 (by decide) ?_
  refine r_iconst (pc := 2) C 3 dX5_isLaw_2 (by decide) ?_
  refine rc_Si (pc := 3) C (t_X5_isWithin l ad D tys bk pre post  x (0 : Int32) (3 : Int32) ) ms_X5_isWithin ml_RX5_59 rfl ⟨Nat.le_of_ble_eq_true rfl, Nat.le_of_ble_eq_true rfl⟩ ⟨rfl, rfl⟩ rfl rfl rfl (Nat.le_of_ble_eq_true rfl) dX5_isLaw_3 ?_
  exact r_iret (pc := 6) C hr hlk dX5_isLaw_6 bI_nar (by first | rfl | simp [bI, *]) rfl
theorem dX5_isPlace_0 : decode cX5_isPlace 0 = .ok (.iload_n 0, 1) := by decide +kernel
theorem dX5_isPlace_1 : decode cX5_isPlace 1 = .ok (.iconst 0, 1) := by decide +kernel
theorem dX5_isPlace_2 : decode cX5_isPlace 2 = .ok (.iconst 3, 1) := by decide +kernel
theorem dX5_isPlace_3 : decode cX5_isPlace 3 = .ok (.invokestatic 59, 3) := by decide +kernel
theorem dX5_isPlace_6 : decode cX5_isPlace 6 = .ok (.ireturn, 1) := by decide +kernel
set_option maxHeartbeats 400000 in
set_option maxRecDepth 20000 in
theorem t_X5_isPlace (l : Launch) (ad : Nat → Nat) (D : va_G) (tys : List (ClassId × FieldType)) (bk : va_W) (pre post : va_W) (x : Int32)  : CTi l yX5_isPlace cX5_isPlace 1 .boolean ({ frames := 1, cells := 0, slots := 0, locals := 22 }) ad D tys (pre ++ (bk ++ post)) [.int x] (bI (inB x 0 3 = true)) (pre ++ (bk ++ post)) := by
  refine CTi.of (lv0 := [(0, .int x)]) (by decide) rfl (Nat.le_of_ble_eq_true rfl) (fun p e s m args below meth c A C hr hlk => ?_)
  have C : Cx p s m args c cX5_isPlace 1 RX5 ad D tys A := C
  refine r_iload_n (pc := 0) C 0 dX5_isPlace_0 rfl rfl ?_
  refine r_iconst (pc := 1) C 0 dX5_isPlace_1 (by decide) ?_
  refine r_iconst (pc := 2) C 3 dX5_isPlace_2 (by decide) ?_
  refine rc_Si (pc := 3) C (t_X5_isWithin l ad D tys bk pre post  x (0 : Int32) (3 : Int32) ) ms_X5_isWithin ml_RX5_59 rfl ⟨Nat.le_of_ble_eq_true rfl, Nat.le_of_ble_eq_true rfl⟩ ⟨rfl, rfl⟩ rfl rfl rfl (Nat.le_of_ble_eq_true rfl) dX5_isPlace_3 ?_
  exact r_iret (pc := 6) C hr hlk dX5_isPlace_6 bI_nar (by first | rfl | simp [bI, *]) rfl
theorem dX5_isTrait_0 : decode cX5_isTrait 0 = .ok (.iload_n 1, 1) := by decide +kernel
theorem dX5_isTrait_1 : decode cX5_isTrait 1 = .ok (.iconst 0, 1) := by decide +kernel
theorem dX5_isTrait_2 : decode cX5_isTrait 2 = .ok (.getstatic 309, 3) := by decide +kernel
theorem dX5_isTrait_5 : decode cX5_isTrait 5 = .ok (.iload_n 0, 1) := by decide +kernel
theorem dX5_isTrait_6 : decode cX5_isTrait 6 = .ok (.iaload, 1) := by decide +kernel
theorem dX5_isTrait_7 : decode cX5_isTrait 7 = .ok (.invokestatic 59, 3) := by decide +kernel
theorem dX5_isTrait_10 : decode cX5_isTrait 10 = .ok (.ireturn, 1) := by decide +kernel
set_option maxHeartbeats 400000 in
set_option maxRecDepth 20000 in
theorem t_X5_isTrait_0 (l : Launch) (ad : Nat → Nat) (D : va_G) (tys : List (ClassId × FieldType)) (bk : va_W) (pre post : va_W) (v : Int32)  : CTi l yX5_isTrait cX5_isTrait 2 .boolean ({ frames := 1, cells := 0, slots := 0, locals := 22 }) ad D tys (pre ++ (bk ++ post)) [.int 0, .int v] (bI (inB v 0 5 = true)) (pre ++ (bk ++ post)) := by
  refine CTi.of (lv0 := [(0, .int 0), (1, .int v)]) (by decide) rfl (Nat.le_of_ble_eq_true rfl) (fun p e s m args below meth c A C hr hlk => ?_)
  have C : Cx p s m args c cX5_isTrait 2 RX5 ad D tys A := C
  refine r_iload_n (pc := 0) C 1 dX5_isTrait_0 rfl rfl ?_
  refine r_iconst (pc := 1) C 0 dX5_isTrait_1 (by decide) ?_
  refine r_gets (pc := 2) C fl_RX5_309 (C_t2 C).1 dX5_isTrait_2 ?_
  refine r_iload_n (pc := 5) C 0 dX5_isTrait_5 rfl rfl ?_
  refine r_ti (pc := 6) C (C_t2 C).2 0 (rfl) (show 0 < 5 by omega) (by decide) (v := 5) rfl dX5_isTrait_6 ?_
  refine rc_Si (pc := 7) C (t_X5_isWithin l ad D tys bk pre post  v (0 : Int32) (5 : Int32) ) ms_X5_isWithin ml_RX5_59 rfl ⟨Nat.le_of_ble_eq_true rfl, Nat.le_of_ble_eq_true rfl⟩ ⟨rfl, rfl⟩ rfl rfl rfl (Nat.le_of_ble_eq_true rfl) dX5_isTrait_7 ?_
  exact r_iret (pc := 10) C hr hlk dX5_isTrait_10 bI_nar (by first | rfl | simp [bI, *]) rfl
set_option maxHeartbeats 400000 in
set_option maxRecDepth 20000 in
theorem t_X5_isTrait_1 (l : Launch) (ad : Nat → Nat) (D : va_G) (tys : List (ClassId × FieldType)) (bk : va_W) (pre post : va_W) (v : Int32)  : CTi l yX5_isTrait cX5_isTrait 2 .boolean ({ frames := 1, cells := 0, slots := 0, locals := 22 }) ad D tys (pre ++ (bk ++ post)) [.int 1, .int v] (bI (inB v 0 99 = true)) (pre ++ (bk ++ post)) := by
  refine CTi.of (lv0 := [(0, .int 1), (1, .int v)]) (by decide) rfl (Nat.le_of_ble_eq_true rfl) (fun p e s m args below meth c A C hr hlk => ?_)
  have C : Cx p s m args c cX5_isTrait 2 RX5 ad D tys A := C
  refine r_iload_n (pc := 0) C 1 dX5_isTrait_0 rfl rfl ?_
  refine r_iconst (pc := 1) C 0 dX5_isTrait_1 (by decide) ?_
  refine r_gets (pc := 2) C fl_RX5_309 (C_t2 C).1 dX5_isTrait_2 ?_
  refine r_iload_n (pc := 5) C 0 dX5_isTrait_5 rfl rfl ?_
  refine r_ti (pc := 6) C (C_t2 C).2 1 (rfl) (show 1 < 5 by omega) (by decide) (v := 99) rfl dX5_isTrait_6 ?_
  refine rc_Si (pc := 7) C (t_X5_isWithin l ad D tys bk pre post  v (0 : Int32) (99 : Int32) ) ms_X5_isWithin ml_RX5_59 rfl ⟨Nat.le_of_ble_eq_true rfl, Nat.le_of_ble_eq_true rfl⟩ ⟨rfl, rfl⟩ rfl rfl rfl (Nat.le_of_ble_eq_true rfl) dX5_isTrait_7 ?_
  exact r_iret (pc := 10) C hr hlk dX5_isTrait_10 bI_nar (by first | rfl | simp [bI, *]) rfl
set_option maxHeartbeats 400000 in
set_option maxRecDepth 20000 in
theorem t_X5_isTrait_2 (l : Launch) (ad : Nat → Nat) (D : va_G) (tys : List (ClassId × FieldType)) (bk : va_W) (pre post : va_W) (v : Int32)  : CTi l yX5_isTrait cX5_isTrait 2 .boolean ({ frames := 1, cells := 0, slots := 0, locals := 22 }) ad D tys (pre ++ (bk ++ post)) [.int 2, .int v] (bI (inB v 0 99 = true)) (pre ++ (bk ++ post)) := by
  refine CTi.of (lv0 := [(0, .int 2), (1, .int v)]) (by decide) rfl (Nat.le_of_ble_eq_true rfl) (fun p e s m args below meth c A C hr hlk => ?_)
  have C : Cx p s m args c cX5_isTrait 2 RX5 ad D tys A := C
  refine r_iload_n (pc := 0) C 1 dX5_isTrait_0 rfl rfl ?_
  refine r_iconst (pc := 1) C 0 dX5_isTrait_1 (by decide) ?_
  refine r_gets (pc := 2) C fl_RX5_309 (C_t2 C).1 dX5_isTrait_2 ?_
  refine r_iload_n (pc := 5) C 0 dX5_isTrait_5 rfl rfl ?_
  refine r_ti (pc := 6) C (C_t2 C).2 2 (rfl) (show 2 < 5 by omega) (by decide) (v := 99) rfl dX5_isTrait_6 ?_
  refine rc_Si (pc := 7) C (t_X5_isWithin l ad D tys bk pre post  v (0 : Int32) (99 : Int32) ) ms_X5_isWithin ml_RX5_59 rfl ⟨Nat.le_of_ble_eq_true rfl, Nat.le_of_ble_eq_true rfl⟩ ⟨rfl, rfl⟩ rfl rfl rfl (Nat.le_of_ble_eq_true rfl) dX5_isTrait_7 ?_
  exact r_iret (pc := 10) C hr hlk dX5_isTrait_10 bI_nar (by first | rfl | simp [bI, *]) rfl
set_option maxHeartbeats 400000 in
set_option maxRecDepth 20000 in
theorem t_X5_isTrait_3 (l : Launch) (ad : Nat → Nat) (D : va_G) (tys : List (ClassId × FieldType)) (bk : va_W) (pre post : va_W) (v : Int32)  : CTi l yX5_isTrait cX5_isTrait 2 .boolean ({ frames := 1, cells := 0, slots := 0, locals := 22 }) ad D tys (pre ++ (bk ++ post)) [.int 3, .int v] (bI (inB v 0 99 = true)) (pre ++ (bk ++ post)) := by
  refine CTi.of (lv0 := [(0, .int 3), (1, .int v)]) (by decide) rfl (Nat.le_of_ble_eq_true rfl) (fun p e s m args below meth c A C hr hlk => ?_)
  have C : Cx p s m args c cX5_isTrait 2 RX5 ad D tys A := C
  refine r_iload_n (pc := 0) C 1 dX5_isTrait_0 rfl rfl ?_
  refine r_iconst (pc := 1) C 0 dX5_isTrait_1 (by decide) ?_
  refine r_gets (pc := 2) C fl_RX5_309 (C_t2 C).1 dX5_isTrait_2 ?_
  refine r_iload_n (pc := 5) C 0 dX5_isTrait_5 rfl rfl ?_
  refine r_ti (pc := 6) C (C_t2 C).2 3 (rfl) (show 3 < 5 by omega) (by decide) (v := 99) rfl dX5_isTrait_6 ?_
  refine rc_Si (pc := 7) C (t_X5_isWithin l ad D tys bk pre post  v (0 : Int32) (99 : Int32) ) ms_X5_isWithin ml_RX5_59 rfl ⟨Nat.le_of_ble_eq_true rfl, Nat.le_of_ble_eq_true rfl⟩ ⟨rfl, rfl⟩ rfl rfl rfl (Nat.le_of_ble_eq_true rfl) dX5_isTrait_7 ?_
  exact r_iret (pc := 10) C hr hlk dX5_isTrait_10 bI_nar (by first | rfl | simp [bI, *]) rfl
set_option maxHeartbeats 400000 in
set_option maxRecDepth 20000 in
theorem t_X5_isTrait_4 (l : Launch) (ad : Nat → Nat) (D : va_G) (tys : List (ClassId × FieldType)) (bk : va_W) (pre post : va_W) (v : Int32)  : CTi l yX5_isTrait cX5_isTrait 2 .boolean ({ frames := 1, cells := 0, slots := 0, locals := 22 }) ad D tys (pre ++ (bk ++ post)) [.int 4, .int v] (bI (inB v 0 9999 = true)) (pre ++ (bk ++ post)) := by
  refine CTi.of (lv0 := [(0, .int 4), (1, .int v)]) (by decide) rfl (Nat.le_of_ble_eq_true rfl) (fun p e s m args below meth c A C hr hlk => ?_)
  have C : Cx p s m args c cX5_isTrait 2 RX5 ad D tys A := C
  refine r_iload_n (pc := 0) C 1 dX5_isTrait_0 rfl rfl ?_
  refine r_iconst (pc := 1) C 0 dX5_isTrait_1 (by decide) ?_
  refine r_gets (pc := 2) C fl_RX5_309 (C_t2 C).1 dX5_isTrait_2 ?_
  refine r_iload_n (pc := 5) C 0 dX5_isTrait_5 rfl rfl ?_
  refine r_ti (pc := 6) C (C_t2 C).2 4 (rfl) (show 4 < 5 by omega) (by decide) (v := 9999) rfl dX5_isTrait_6 ?_
  refine rc_Si (pc := 7) C (t_X5_isWithin l ad D tys bk pre post  v (0 : Int32) (9999 : Int32) ) ms_X5_isWithin ml_RX5_59 rfl ⟨Nat.le_of_ble_eq_true rfl, Nat.le_of_ble_eq_true rfl⟩ ⟨rfl, rfl⟩ rfl rfl rfl (Nat.le_of_ble_eq_true rfl) dX5_isTrait_7 ?_
  exact r_iret (pc := 10) C hr hlk dX5_isTrait_10 bI_nar (by first | rfl | simp [bI, *]) rfl
theorem dX5_isUnder_0 : decode cX5_isUnder 0 = .ok (.iload_n 1, 1) := by decide +kernel
theorem dX5_isUnder_1 : decode cX5_isUnder 1 = .ok (.tableswitch 61 0 2 #[27, 29, 45], 27) := by decide +kernel
theorem dX5_isUnder_28 : decode cX5_isUnder 28 = .ok (.iconst 1, 1) := by decide +kernel
theorem dX5_isUnder_29 : decode cX5_isUnder 29 = .ok (.ireturn, 1) := by decide +kernel
theorem dX5_isUnder_30 : decode cX5_isUnder 30 = .ok (.iload_n 0, 1) := by decide +kernel
theorem dX5_isUnder_31 : decode cX5_isUnder 31 = .ok (.iconst 1, 1) := by decide +kernel
theorem dX5_isUnder_32 : decode cX5_isUnder 32 = .ok (.if_icmp .eq 8, 3) := by decide +kernel
theorem dX5_isUnder_35 : decode cX5_isUnder 35 = .ok (.iload_n 0, 1) := by decide +kernel
theorem dX5_isUnder_36 : decode cX5_isUnder 36 = .ok (.iconst 3, 1) := by decide +kernel
theorem dX5_isUnder_37 : decode cX5_isUnder 37 = .ok (.if_icmp .ne 7, 3) := by decide +kernel
theorem dX5_isUnder_40 : decode cX5_isUnder 40 = .ok (.iconst 1, 1) := by decide +kernel
theorem dX5_isUnder_41 : decode cX5_isUnder 41 = .ok (.goto 4, 3) := by decide +kernel
theorem dX5_isUnder_44 : decode cX5_isUnder 44 = .ok (.iconst 0, 1) := by decide +kernel
theorem dX5_isUnder_45 : decode cX5_isUnder 45 = .ok (.ireturn, 1) := by decide +kernel
theorem dX5_isUnder_46 : decode cX5_isUnder 46 = .ok (.iload_n 0, 1) := by decide +kernel
theorem dX5_isUnder_47 : decode cX5_isUnder 47 = .ok (.iconst 2, 1) := by decide +kernel
theorem dX5_isUnder_48 : decode cX5_isUnder 48 = .ok (.if_icmp .eq 8, 3) := by decide +kernel
theorem dX5_isUnder_51 : decode cX5_isUnder 51 = .ok (.iload_n 0, 1) := by decide +kernel
theorem dX5_isUnder_52 : decode cX5_isUnder 52 = .ok (.iconst 4, 1) := by decide +kernel
theorem dX5_isUnder_53 : decode cX5_isUnder 53 = .ok (.if_icmp .ne 7, 3) := by decide +kernel
theorem dX5_isUnder_56 : decode cX5_isUnder 56 = .ok (.iconst 1, 1) := by decide +kernel
theorem dX5_isUnder_57 : decode cX5_isUnder 57 = .ok (.goto 4, 3) := by decide +kernel
theorem dX5_isUnder_60 : decode cX5_isUnder 60 = .ok (.iconst 0, 1) := by decide +kernel
theorem dX5_isUnder_61 : decode cX5_isUnder 61 = .ok (.ireturn, 1) := by decide +kernel
theorem dX5_isUnder_62 : decode cX5_isUnder 62 = .ok (.iload_n 0, 1) := by decide +kernel
theorem dX5_isUnder_63 : decode cX5_isUnder 63 = .ok (.iload_n 1, 1) := by decide +kernel
theorem dX5_isUnder_64 : decode cX5_isUnder 64 = .ok (.if_icmp .ne 7, 3) := by decide +kernel
theorem dX5_isUnder_67 : decode cX5_isUnder 67 = .ok (.iconst 1, 1) := by decide +kernel
theorem dX5_isUnder_68 : decode cX5_isUnder 68 = .ok (.goto 4, 3) := by decide +kernel
theorem dX5_isUnder_71 : decode cX5_isUnder 71 = .ok (.iconst 0, 1) := by decide +kernel
theorem dX5_isUnder_72 : decode cX5_isUnder 72 = .ok (.ireturn, 1) := by decide +kernel
set_option maxHeartbeats 400000 in
set_option maxRecDepth 20000 in
theorem t_X5_isUnder (l : Launch) (ad : Nat → Nat) (D : va_G) (tys : List (ClassId × FieldType)) (bk : va_W) (pre post : va_W) (w x : Int32)  : CTi l yX5_isUnder cX5_isUnder 2 .boolean ({ frames := 0, cells := 0, slots := 0, locals := 0 }) ad D tys (pre ++ (bk ++ post)) [.int w, .int x] (bI (undB w x = true)) (pre ++ (bk ++ post)) := by
  refine CTi.of (lv0 := [(0, .int w), (1, .int x)]) (by decide) rfl (Nat.le_of_ble_eq_true rfl) (fun p e s m args below meth c A C hr hlk => ?_)
  have C : Cx p s m args c cX5_isUnder 2 RX5 ad D tys A := C
  refine r_iload_n (pc := 0) C 1 dX5_isUnder_0 rfl rfl ?_
  have w_1 := sw_cases x 0 2 (by decide)
  rcases w_1 with w_1 | w_1
  · skip
    refine r_tableOut (pc := 1) C 27 62 dX5_isUnder_1 w_1 (by decide) ?_
    have w_1_0 : ¬ x = 0 := fun q => by rw [q] at w_1; revert w_1; decide
    have w_1_1 : ¬ x = 1 := fun q => by rw [q] at w_1; revert w_1; decide
    have w_1_2 : ¬ x = 2 := fun q => by rw [q] at w_1; revert w_1; decide
    refine r_iload_n (pc := 62) C 0 dX5_isUnder_62 rfl rfl ?_
    refine r_iload_n (pc := 63) C 1 dX5_isUnder_63 rfl rfl ?_
    refine r_icmp_ne (pc := 64) C 71 dX5_isUnder_64 (by decide) (fun c_2 => ?_) (fun c_2 => ?_)
    · skip
      refine r_iconst (pc := 71) C 0 dX5_isUnder_71 (by decide) ?_
      exact r_iret (pc := 72) C hr hlk dX5_isUnder_72 rfl (by simp [bI, undB, *]) rfl
    · skip
      refine r_iconst (pc := 67) C 1 dX5_isUnder_67 (by decide) ?_
      refine r_goto (pc := 68) C 72 dX5_isUnder_68 (by decide) ?_
      exact r_iret (pc := 72) C hr hlk dX5_isUnder_72 rfl (by simp [bI, undB, *]) rfl
  · obtain ⟨i_1, hi_1, w_1⟩ := w_1
    have hc_1 : i_1 = 0 ∨ i_1 = 1 ∨ i_1 = 2 := by omega
    rcases hc_1 with rfl | rfl | rfl
    · skip
      refine r_tableIn (pc := 1) C 27 28 dX5_isUnder_1 (by rw [w_1]; decide) (by rw [w_1]; decide) (by rw [w_1]; rfl) (by decide) ?_
      have w_1 : x = 0 := Int32.toInt_inj.mp (by rw [w_1]; rfl)
      refine r_iconst (pc := 28) C 1 dX5_isUnder_28 (by decide) ?_
      exact r_iret (pc := 29) C hr hlk dX5_isUnder_29 rfl (by simp [bI, undB, *]) rfl
    · skip
      refine r_tableIn (pc := 1) C 27 30 dX5_isUnder_1 (by rw [w_1]; decide) (by rw [w_1]; decide) (by rw [w_1]; rfl) (by decide) ?_
      have w_1 : x = 1 := Int32.toInt_inj.mp (by rw [w_1]; rfl)
      refine r_iload_n (pc := 30) C 0 dX5_isUnder_30 rfl rfl ?_
      refine r_iconst (pc := 31) C 1 dX5_isUnder_31 (by decide) ?_
      refine r_icmp_eq (pc := 32) C 40 dX5_isUnder_32 (by decide) (fun c_3 => ?_) (fun c_3 => ?_)
      · skip
        refine r_iconst (pc := 40) C 1 dX5_isUnder_40 (by decide) ?_
        refine r_goto (pc := 41) C 45 dX5_isUnder_41 (by decide) ?_
        exact r_iret (pc := 45) C hr hlk dX5_isUnder_45 rfl (by simp [bI, undB, *]) rfl
      · skip
        refine r_iload_n (pc := 35) C 0 dX5_isUnder_35 rfl rfl ?_
        refine r_iconst (pc := 36) C 3 dX5_isUnder_36 (by decide) ?_
        refine r_icmp_ne (pc := 37) C 44 dX5_isUnder_37 (by decide) (fun c_4 => ?_) (fun c_4 => ?_)
        · skip
          refine r_iconst (pc := 44) C 0 dX5_isUnder_44 (by decide) ?_
          exact r_iret (pc := 45) C hr hlk dX5_isUnder_45 rfl (by simp [bI, undB, *]) rfl
        · skip
          refine r_iconst (pc := 40) C 1 dX5_isUnder_40 (by decide) ?_
          refine r_goto (pc := 41) C 45 dX5_isUnder_41 (by decide) ?_
          exact r_iret (pc := 45) C hr hlk dX5_isUnder_45 rfl (by simp [bI, undB, *]) rfl
    · skip
      refine r_tableIn (pc := 1) C 27 46 dX5_isUnder_1 (by rw [w_1]; decide) (by rw [w_1]; decide) (by rw [w_1]; rfl) (by decide) ?_
      have w_1 : x = 2 := Int32.toInt_inj.mp (by rw [w_1]; rfl)
      refine r_iload_n (pc := 46) C 0 dX5_isUnder_46 rfl rfl ?_
      refine r_iconst (pc := 47) C 2 dX5_isUnder_47 (by decide) ?_
      refine r_icmp_eq (pc := 48) C 56 dX5_isUnder_48 (by decide) (fun c_5 => ?_) (fun c_5 => ?_)
      · skip
        refine r_iconst (pc := 56) C 1 dX5_isUnder_56 (by decide) ?_
        refine r_goto (pc := 57) C 61 dX5_isUnder_57 (by decide) ?_
        exact r_iret (pc := 61) C hr hlk dX5_isUnder_61 rfl (by simp [bI, undB, *]) rfl
      · skip
        refine r_iload_n (pc := 51) C 0 dX5_isUnder_51 rfl rfl ?_
        refine r_iconst (pc := 52) C 4 dX5_isUnder_52 (by decide) ?_
        refine r_icmp_ne (pc := 53) C 60 dX5_isUnder_53 (by decide) (fun c_6 => ?_) (fun c_6 => ?_)
        · skip
          refine r_iconst (pc := 60) C 0 dX5_isUnder_60 (by decide) ?_
          exact r_iret (pc := 61) C hr hlk dX5_isUnder_61 rfl (by simp [bI, undB, *]) rfl
        · skip
          refine r_iconst (pc := 56) C 1 dX5_isUnder_56 (by decide) ?_
          refine r_goto (pc := 57) C 61 dX5_isUnder_57 (by decide) ?_
          exact r_iret (pc := 61) C hr hlk dX5_isUnder_61 rfl (by simp [bI, undB, *]) rfl
theorem dX5_isAskable_0 : decode cX5_isAskable 0 = .ok (.aload_n 0, 1) := by decide +kernel
theorem dX5_isAskable_1 : decode cX5_isAskable 1 = .ok (.getfield 10, 3) := by decide +kernel
theorem dX5_isAskable_4 : decode cX5_isAskable 4 = .ok (.iload_n 1, 1) := by decide +kernel
theorem dX5_isAskable_5 : decode cX5_isAskable 5 = .ok (.invokevirtual 116, 3) := by decide +kernel
theorem dX5_isAskable_8 : decode cX5_isAskable 8 = .ok (.ifCond .eq 17, 3) := by decide +kernel
theorem dX5_isAskable_11 : decode cX5_isAskable 11 = .ok (.iload_n 2, 1) := by decide +kernel
theorem dX5_isAskable_12 : decode cX5_isAskable 12 = .ok (.iconst 1, 1) := by decide +kernel
theorem dX5_isAskable_13 : decode cX5_isAskable 13 = .ok (.bipush 20, 2) := by decide +kernel
theorem dX5_isAskable_15 : decode cX5_isAskable 15 = .ok (.invokestatic 59, 3) := by decide +kernel
theorem dX5_isAskable_18 : decode cX5_isAskable 18 = .ok (.ifCond .eq 7, 3) := by decide +kernel
theorem dX5_isAskable_21 : decode cX5_isAskable 21 = .ok (.iconst 1, 1) := by decide +kernel
theorem dX5_isAskable_22 : decode cX5_isAskable 22 = .ok (.goto 4, 3) := by decide +kernel
theorem dX5_isAskable_25 : decode cX5_isAskable 25 = .ok (.iconst 0, 1) := by decide +kernel
theorem dX5_isAskable_26 : decode cX5_isAskable 26 = .ok (.ireturn, 1) := by decide +kernel
set_option maxHeartbeats 400000 in
set_option maxRecDepth 20000 in
theorem t_X5_isAskable (l : Launch) (ad : Nat → Nat) (D : va_G) (cs : Nat → ClassId) (h : Nat → Nat) (σ : Nat → Nat → Int32) (pre post : va_W) (n : Nat) (o k : Int32) (hN : σ 0 0 = nI n) (hn : n ≤ 8) : CTi l yX5_isAskable cX5_isAskable 3 .boolean ({ frames := 2, cells := 0, slots := 0, locals := 43 }) ad D (tysW cs) (pre ++ (wX cs h σ ++ post)) [.ref (h 0), .int o, .int k] (bI ((oneB n o && inB k 1 20) = true)) (pre ++ (wX cs h σ ++ post)) := by
  refine CTi.of (lv0 := [(0, .ref (h 0)), (1, .int o), (2, .int k)]) (by decide) rfl (Nat.le_of_ble_eq_true rfl) (fun p e s m args below meth c A C hr hlk => ?_)
  have C : Cx p s m args c cX5_isAskable 3 RX5 ad D (tysW cs) A := C
  refine r_aload_n (pc := 0) C 0 dX5_isAskable_0 rfl rfl ?_
  refine xg_now (pc := 1) C fl_RX5_10 dX5_isAskable_1 ?_
  refine r_iload_n (pc := 4) C 1 dX5_isAskable_4 rfl rfl ?_
  refine rc_Vi (pc := 5) C (t_X0_exists' l ad D cs (fun j => h (1 + j)) (fun _ => σ 0) (pre ++ xA_0 cs h σ) (xC_0 cs h σ ++ post) (σ 0) rfl n o hN hn) mv_X0_exists ml_RX5_116 rfl ⟨Nat.le_of_ble_eq_true rfl, Nat.le_of_ble_eq_true rfl⟩ ⟨rfl, rfl⟩ (q0 := 0) rfl rfl rfl fx_0 fx_0.symm rfl (Nat.le_of_ble_eq_true rfl) dX5_isAskable_5 ?_
  refine r_if_eq (pc := 8) C 25 dX5_isAskable_8 (by decide) (fun c_1 => ?_) (fun c_1 => ?_)
  · skip
    have c_1 := bI_0.mp c_1
    refine r_iconst (pc := 25) C 0 dX5_isAskable_25 (by decide) ?_
    exact r_iret (pc := 26) C hr hlk dX5_isAskable_26 rfl (by simp_all [bI]) rfl
  · skip
    have c_1 := bI_n.mp c_1
    refine r_iload_n (pc := 11) C 2 dX5_isAskable_11 rfl rfl ?_
    refine r_iconst (pc := 12) C 1 dX5_isAskable_12 (by decide) ?_
    refine r_bipush (pc := 13) C 20 dX5_isAskable_13 (by decide) ?_
    refine rc_Si (pc := 15) C (t_X5_isWithin l ad D (tysW cs) (wX cs h σ) pre post  k (1 : Int32) (20 : Int32) ) ms_X5_isWithin ml_RX5_59 rfl ⟨Nat.le_of_ble_eq_true rfl, Nat.le_of_ble_eq_true rfl⟩ ⟨rfl, rfl⟩ rfl rfl rfl (Nat.le_of_ble_eq_true rfl) dX5_isAskable_15 ?_
    refine r_if_eq (pc := 18) C 25 dX5_isAskable_18 (by decide) (fun c_2 => ?_) (fun c_2 => ?_)
    · skip
      have c_2 := bI_0.mp c_2
      refine r_iconst (pc := 25) C 0 dX5_isAskable_25 (by decide) ?_
      exact r_iret (pc := 26) C hr hlk dX5_isAskable_26 rfl (by simp_all [bI]) rfl
    · skip
      have c_2 := bI_n.mp c_2
      refine r_iconst (pc := 21) C 1 dX5_isAskable_21 (by decide) ?_
      refine r_goto (pc := 22) C 26 dX5_isAskable_22 (by decide) ?_
      exact r_iret (pc := 26) C hr hlk dX5_isAskable_26 rfl (by simp_all [bI]) rfl
theorem t_X5_isAskable' (l : Launch) (ad : Nat → Nat) (D : va_G) (cs : Nat → ClassId) (h : Nat → Nat) (σ : Nat → Nat → Int32) (pre post : va_W) (f0_ : Nat → Int32) (e0_ : σ 0 = f0_) (n : Nat) (o k : Int32) (hN : f0_ 0 = nI n) (hn : n ≤ 8) : CTi l yX5_isAskable cX5_isAskable 3 .boolean ({ frames := 2, cells := 0, slots := 0, locals := 43 }) ad D (tysW cs) (pre ++ (wX cs h σ ++ post)) [.ref (h 0), .int o, .int k] (bI ((oneB n o && inB k 1 20) = true)) (pre ++ (wX cs h σ ++ post)) := by
  subst e0_
  exact t_X5_isAskable l ad D cs h σ pre post n o k hN hn
theorem dX5_set_0 : decode cX5_set 0 = .ok (.iload_n 1, 1) := by decide +kernel
theorem dX5_set_1 : decode cX5_set 1 = .ok (.invokestatic 91, 3) := by decide +kernel
theorem dX5_set_4 : decode cX5_set 4 = .ok (.ifCond .eq 16, 3) := by decide +kernel
theorem dX5_set_7 : decode cX5_set 7 = .ok (.iload_n 2, 1) := by decide +kernel
theorem dX5_set_8 : decode cX5_set 8 = .ok (.iconst 0, 1) := by decide +kernel
theorem dX5_set_9 : decode cX5_set 9 = .ok (.getstatic 95, 3) := by decide +kernel
theorem dX5_set_12 : decode cX5_set 12 = .ok (.iload_n 1, 1) := by decide +kernel
theorem dX5_set_13 : decode cX5_set 13 = .ok (.iaload, 1) := by decide +kernel
theorem dX5_set_14 : decode cX5_set 14 = .ok (.invokestatic 59, 3) := by decide +kernel
theorem dX5_set_17 : decode cX5_set 17 = .ok (.ifCond .ne 5, 3) := by decide +kernel
theorem dX5_set_20 : decode cX5_set 20 = .ok (.iconst (-1), 1) := by decide +kernel
theorem dX5_set_21 : decode cX5_set 21 = .ok (.ireturn, 1) := by decide +kernel
theorem dX5_set_22 : decode cX5_set 22 = .ok (.aload_n 0, 1) := by decide +kernel
theorem dX5_set_23 : decode cX5_set 23 = .ok (.getfield 10, 3) := by decide +kernel
theorem dX5_set_26 : decode cX5_set 26 = .ok (.getfield 98, 3) := by decide +kernel
theorem dX5_set_29 : decode cX5_set 29 = .ok (.iload_n 1, 1) := by decide +kernel
theorem dX5_set_30 : decode cX5_set 30 = .ok (.iaload, 1) := by decide +kernel
theorem dX5_set_31 : decode cX5_set 31 = .ok (.istore_n 3, 1) := by decide +kernel
theorem dX5_set_32 : decode cX5_set 32 = .ok (.aload_n 0, 1) := by decide +kernel
theorem dX5_set_33 : decode cX5_set 33 = .ok (.getfield 10, 3) := by decide +kernel
theorem dX5_set_36 : decode cX5_set 36 = .ok (.getfield 98, 3) := by decide +kernel
theorem dX5_set_39 : decode cX5_set 39 = .ok (.iload_n 1, 1) := by decide +kernel
theorem dX5_set_40 : decode cX5_set 40 = .ok (.iload_n 2, 1) := by decide +kernel
theorem dX5_set_41 : decode cX5_set 41 = .ok (.iastore, 1) := by decide +kernel
theorem dX5_set_42 : decode cX5_set 42 = .ok (.iload_n 3, 1) := by decide +kernel
theorem dX5_set_43 : decode cX5_set 43 = .ok (.ireturn, 1) := by decide +kernel
set_option maxHeartbeats 400000 in
set_option maxRecDepth 20000 in
theorem t_X5_set (l : Launch) (ad : Nat → Nat) (D : va_G) (cs : Nat → ClassId) (h : Nat → Nat) (σ : Nat → Nat → Int32) (pre post : va_W) (n : Nat) (a v : Int32) (hN : σ 0 0 = nI n) (hn : n ≤ 8) (hR : rgM n (σ 0)) : CTi l yX5_set cX5_set 4 .int ({ frames := 2, cells := 0, slots := 0, locals := 42 }) ad D (tysW cs) (pre ++ (wX cs h σ ++ post)) [.ref (h 0), .int a, .int v] (gateI (inB a 0 3 && inB v 0 (if a = 3 then 99 else 9)) (σ 0 (4 + a.toNatClampNeg)) (-1)) (pre ++ (wX cs h (su σ 0 (gateF (inB a 0 3 && inB v 0 (if a = 3 then 99 else 9)) (upd (σ 0) (4 + a.toNatClampNeg) v) (σ 0))) ++ post)) := by
  refine CTi.of (lv0 := [(0, .ref (h 0)), (1, .int a), (2, .int v)]) (by decide) rfl (Nat.le_of_ble_eq_true rfl) (fun p e s m args below meth c A C hr hlk => ?_)
  have C : Cx p s m args c cX5_set 4 RX5 ad D (tysW cs) A := C
  refine r_iload_n (pc := 0) C 1 dX5_set_0 rfl rfl ?_
  refine rc_Si (pc := 1) C (t_X5_isLaw l ad D (tysW cs) (wX cs h σ) pre post  a ) ms_X5_isLaw ml_RX5_91 rfl ⟨Nat.le_of_ble_eq_true rfl, Nat.le_of_ble_eq_true rfl⟩ ⟨rfl, rfl⟩ rfl rfl rfl (Nat.le_of_ble_eq_true rfl) dX5_set_1 ?_
  refine r_if_eq (pc := 4) C 20 dX5_set_4 (by decide) (fun c_1 => ?_) (fun c_1 => ?_)
  · skip
    have c_1 := bI_0.mp c_1
    refine r_iconst (pc := 20) C (-1) dX5_set_20 (by decide) ?_
    exact r_iret (pc := 21) C hr hlk dX5_set_21 rfl (by first | rfl | (simp [gateI, gateF, *]; done) | simp_all [gateI, gateF]) (by rw [show (gateF (inB a 0 3 && inB v 0 (if a = 3 then 99 else 9)) (upd (σ 0) (4 + a.toNatClampNeg) v) (σ 0) : Nat → Int32) = σ 0 from (by first | rfl | (simp [gateI, gateF, *]; done) | simp_all [gateI, gateF])] <;> rfl)
  · skip
    have c_1 := bI_n.mp c_1
    obtain ⟨t, l_t, h_t, rfl⟩ := rng_nat 0 3 (by decide) (by decide) c_1
    have e_t : (nI t).toNatClampNeg = t := nI_clamp (by omega)
    refine r_iload_n (pc := 7) C 2 dX5_set_7 rfl rfl ?_
    refine r_iconst (pc := 8) C 0 dX5_set_8 (by decide) ?_
    refine r_gets (pc := 9) C fl_RX5_95 (C_t1 C).1 dX5_set_9 ?_
    refine r_iload_n (pc := 12) C 1 dX5_set_12 rfl rfl ?_
    refine r_ti (pc := 13) C (C_t1 C).2 t (rfl) (show t < 4 by omega) (by decide) (v := tbl1.getD t 0) rfl dX5_set_13 ?_
    refine r_eqi (y := if nI t = 3 then 99 else 9) (tb1 (by omega)) ?_
    refine rc_Si (pc := 14) C (t_X5_isWithin l ad D (tysW cs) (wX cs h σ) pre post  v (0 : Int32) (if nI t = 3 then 99 else 9) ) ms_X5_isWithin ml_RX5_59 rfl ⟨Nat.le_of_ble_eq_true rfl, Nat.le_of_ble_eq_true rfl⟩ ⟨rfl, rfl⟩ rfl rfl rfl (Nat.le_of_ble_eq_true rfl) dX5_set_14 ?_
    refine r_if_ne (pc := 17) C 22 dX5_set_17 (by decide) (fun c_2 => ?_) (fun c_2 => ?_)
    · skip
      have c_2 := bI_n.mp c_2
      refine r_aload_n (pc := 22) C 0 dX5_set_22 rfl rfl ?_
      refine xg_now (pc := 23) C fl_RX5_10 dX5_set_23 ?_
      refine xg_laws_0 (pc := 26) C fl_RX5_98 dX5_set_26 ?_
      refine r_iload_n (pc := 29) C 1 dX5_set_29 rfl rfl ?_
      refine xl_laws_0 (pc := 30) C t (rfl) (by omega) dX5_set_30 (σ 0 (4 + t)) rfl ?_
      refine r_istore_n (pc := 31) C [(3, .int (σ 0 (4 + t))), (0, .ref (h 0)), (1, .int (nI t)), (2, .int v)] dX5_set_31 rfl (by decide) rfl ?_
      refine r_aload_n (pc := 32) C 1 dX5_set_32 rfl rfl ?_
      refine xg_now (pc := 33) C fl_RX5_10 dX5_set_33 ?_
      refine xg_laws_0 (pc := 36) C fl_RX5_98 dX5_set_36 ?_
      refine r_iload_n (pc := 39) C 2 dX5_set_39 rfl rfl ?_
      refine r_iload_n (pc := 40) C 3 dX5_set_40 rfl rfl ?_
      refine xs_laws_0 (pc := 41) C t (rfl) (by omega) dX5_set_41 (4 + t) rfl (σ 0) (rfl) ?_
      refine r_iload_n (pc := 42) C 0 dX5_set_42 rfl rfl ?_
      exact r_iret (pc := 43) C hr hlk dX5_set_43 rfl (by first | rfl | (simp [gateI, gateF, *]; done) | simp_all [gateI, gateF]) (by rw [show (gateF (inB (nI t) 0 3 && inB v 0 (if (nI t) = 3 then 99 else 9)) (upd (σ 0) (4 + (nI t).toNatClampNeg) v) (σ 0) : Nat → Int32) = upd (σ 0) (4 + t) v from (by first | rfl | (simp [gateI, gateF, *]; done) | simp_all [gateI, gateF])] <;> rfl)
    · skip
      have c_2 := bI_0.mp c_2
      refine r_iconst (pc := 20) C (-1) dX5_set_20 (by decide) ?_
      exact r_iret (pc := 21) C hr hlk dX5_set_21 rfl (by first | rfl | (simp [gateI, gateF, *]; done) | simp_all [gateI, gateF]) (by rw [show (gateF (inB (nI t) 0 3 && inB v 0 (if (nI t) = 3 then 99 else 9)) (upd (σ 0) (4 + (nI t).toNatClampNeg) v) (σ 0) : Nat → Int32) = σ 0 from (by first | rfl | (simp [gateI, gateF, *]; done) | simp_all [gateI, gateF])] <;> rfl)
theorem t_X5_set' (l : Launch) (ad : Nat → Nat) (D : va_G) (cs : Nat → ClassId) (h : Nat → Nat) (σ : Nat → Nat → Int32) (pre post : va_W) (f0_ : Nat → Int32) (e0_ : σ 0 = f0_) (n : Nat) (a v : Int32) (hN : f0_ 0 = nI n) (hn : n ≤ 8) (hR : rgM n f0_) : CTi l yX5_set cX5_set 4 .int ({ frames := 2, cells := 0, slots := 0, locals := 42 }) ad D (tysW cs) (pre ++ (wX cs h σ ++ post)) [.ref (h 0), .int a, .int v] (gateI (inB a 0 3 && inB v 0 (if a = 3 then 99 else 9)) (f0_ (4 + a.toNatClampNeg)) (-1)) (pre ++ (wX cs h (su σ 0 (gateF (inB a 0 3 && inB v 0 (if a = 3 then 99 else 9)) (upd f0_ (4 + a.toNatClampNeg) v) f0_)) ++ post)) := by
  subst e0_
  exact t_X5_set l ad D cs h σ pre post n a v hN hn hR
theorem dX5_lawOf_0 : decode cX5_lawOf 0 = .ok (.iload_n 1, 1) := by decide +kernel
theorem dX5_lawOf_1 : decode cX5_lawOf 1 = .ok (.invokestatic 91, 3) := by decide +kernel
theorem dX5_lawOf_4 : decode cX5_lawOf 4 = .ok (.ifCond .eq 15, 3) := by decide +kernel
theorem dX5_lawOf_7 : decode cX5_lawOf 7 = .ok (.aload_n 0, 1) := by decide +kernel
theorem dX5_lawOf_8 : decode cX5_lawOf 8 = .ok (.getfield 10, 3) := by decide +kernel
theorem dX5_lawOf_11 : decode cX5_lawOf 11 = .ok (.getfield 98, 3) := by decide +kernel
theorem dX5_lawOf_14 : decode cX5_lawOf 14 = .ok (.iload_n 1, 1) := by decide +kernel
theorem dX5_lawOf_15 : decode cX5_lawOf 15 = .ok (.iaload, 1) := by decide +kernel
theorem dX5_lawOf_16 : decode cX5_lawOf 16 = .ok (.goto 4, 3) := by decide +kernel
theorem dX5_lawOf_19 : decode cX5_lawOf 19 = .ok (.iconst (-1), 1) := by decide +kernel
theorem dX5_lawOf_20 : decode cX5_lawOf 20 = .ok (.ireturn, 1) := by decide +kernel
set_option maxHeartbeats 400000 in
set_option maxRecDepth 20000 in
theorem t_X5_lawOf (l : Launch) (ad : Nat → Nat) (D : va_G) (cs : Nat → ClassId) (h : Nat → Nat) (σ : Nat → Nat → Int32) (pre post : va_W) (n : Nat) (a : Int32) (hN : σ 0 0 = nI n) (hn : n ≤ 8) (hR : rgM n (σ 0)) : CTi l yX5_lawOf cX5_lawOf 2 .int ({ frames := 2, cells := 0, slots := 0, locals := 42 }) ad D (tysW cs) (pre ++ (wX cs h σ ++ post)) [.ref (h 0), .int a] (gateI (inB a 0 3) (σ 0 (4 + a.toNatClampNeg)) (-1)) (pre ++ (wX cs h σ ++ post)) := by
  refine CTi.of (lv0 := [(0, .ref (h 0)), (1, .int a)]) (by decide) rfl (Nat.le_of_ble_eq_true rfl) (fun p e s m args below meth c A C hr hlk => ?_)
  have C : Cx p s m args c cX5_lawOf 2 RX5 ad D (tysW cs) A := C
  refine r_iload_n (pc := 0) C 1 dX5_lawOf_0 rfl rfl ?_
  refine rc_Si (pc := 1) C (t_X5_isLaw l ad D (tysW cs) (wX cs h σ) pre post  a ) ms_X5_isLaw ml_RX5_91 rfl ⟨Nat.le_of_ble_eq_true rfl, Nat.le_of_ble_eq_true rfl⟩ ⟨rfl, rfl⟩ rfl rfl rfl (Nat.le_of_ble_eq_true rfl) dX5_lawOf_1 ?_
  refine r_if_eq (pc := 4) C 19 dX5_lawOf_4 (by decide) (fun c_1 => ?_) (fun c_1 => ?_)
  · skip
    have c_1 := bI_0.mp c_1
    refine r_iconst (pc := 19) C (-1) dX5_lawOf_19 (by decide) ?_
    exact r_iret (pc := 20) C hr hlk dX5_lawOf_20 rfl (by first | rfl | (simp [gateI, gateF, *]; done) | simp_all [gateI, gateF]) rfl
  · skip
    have c_1 := bI_n.mp c_1
    obtain ⟨t, l_t, h_t, rfl⟩ := rng_nat 0 3 (by decide) (by decide) c_1
    have e_t : (nI t).toNatClampNeg = t := nI_clamp (by omega)
    refine r_aload_n (pc := 7) C 0 dX5_lawOf_7 rfl rfl ?_
    refine xg_now (pc := 8) C fl_RX5_10 dX5_lawOf_8 ?_
    refine xg_laws_0 (pc := 11) C fl_RX5_98 dX5_lawOf_11 ?_
    refine r_iload_n (pc := 14) C 1 dX5_lawOf_14 rfl rfl ?_
    refine xl_laws_0 (pc := 15) C t (rfl) (by omega) dX5_lawOf_15 (σ 0 (4 + t)) rfl ?_
    refine r_goto (pc := 16) C 20 dX5_lawOf_16 (by decide) ?_
    exact r_iret (pc := 20) C hr hlk dX5_lawOf_20 rfl (by first | rfl | (simp [gateI, gateF, *]; done) | simp_all [gateI, gateF]) rfl
theorem t_X5_lawOf' (l : Launch) (ad : Nat → Nat) (D : va_G) (cs : Nat → ClassId) (h : Nat → Nat) (σ : Nat → Nat → Int32) (pre post : va_W) (f0_ : Nat → Int32) (e0_ : σ 0 = f0_) (n : Nat) (a : Int32) (hN : f0_ 0 = nI n) (hn : n ≤ 8) (hR : rgM n f0_) : CTi l yX5_lawOf cX5_lawOf 2 .int ({ frames := 2, cells := 0, slots := 0, locals := 42 }) ad D (tysW cs) (pre ++ (wX cs h σ ++ post)) [.ref (h 0), .int a] (gateI (inB a 0 3) (f0_ (4 + a.toNatClampNeg)) (-1)) (pre ++ (wX cs h σ ++ post)) := by
  subst e0_
  exact t_X5_lawOf l ad D cs h σ pre post n a hN hn hR
theorem dX5_of_0 : decode cX5_of 0 = .ok (.aload_n 0, 1) := by decide +kernel
theorem dX5_of_1 : decode cX5_of 1 = .ok (.getfield 10, 3) := by decide +kernel
theorem dX5_of_4 : decode cX5_of 4 = .ok (.iload_n 1, 1) := by decide +kernel
theorem dX5_of_5 : decode cX5_of 5 = .ok (.invokevirtual 116, 3) := by decide +kernel
theorem dX5_of_8 : decode cX5_of 8 = .ok (.ifCond .eq 12, 3) := by decide +kernel
theorem dX5_of_11 : decode cX5_of 11 = .ok (.iload_n 2, 1) := by decide +kernel
theorem dX5_of_12 : decode cX5_of 12 = .ok (.iconst 0, 1) := by decide +kernel
theorem dX5_of_13 : decode cX5_of 13 = .ok (.iconst 5, 1) := by decide +kernel
theorem dX5_of_14 : decode cX5_of 14 = .ok (.invokestatic 59, 3) := by decide +kernel
theorem dX5_of_17 : decode cX5_of 17 = .ok (.ifCond .ne 5, 3) := by decide +kernel
theorem dX5_of_20 : decode cX5_of 20 = .ok (.iconst (-1), 1) := by decide +kernel
theorem dX5_of_21 : decode cX5_of 21 = .ok (.ireturn, 1) := by decide +kernel
theorem dX5_of_22 : decode cX5_of 22 = .ok (.iload_n 2, 1) := by decide +kernel
theorem dX5_of_23 : decode cX5_of 23 = .ok (.iconst 5, 1) := by decide +kernel
theorem dX5_of_24 : decode cX5_of 24 = .ok (.if_icmp .ge 15, 3) := by decide +kernel
theorem dX5_of_27 : decode cX5_of 27 = .ok (.aload_n 0, 1) := by decide +kernel
theorem dX5_of_28 : decode cX5_of 28 = .ok (.getfield 10, 3) := by decide +kernel
theorem dX5_of_31 : decode cX5_of 31 = .ok (.getfield 113, 3) := by decide +kernel
theorem dX5_of_34 : decode cX5_of 34 = .ok (.iload_n 2, 1) := by decide +kernel
theorem dX5_of_35 : decode cX5_of 35 = .ok (.aaload, 1) := by decide +kernel
theorem dX5_of_36 : decode cX5_of 36 = .ok (.iload_n 1, 1) := by decide +kernel
theorem dX5_of_37 : decode cX5_of 37 = .ok (.iaload, 1) := by decide +kernel
theorem dX5_of_38 : decode cX5_of 38 = .ok (.ireturn, 1) := by decide +kernel
theorem dX5_of_39 : decode cX5_of 39 = .ok (.aload_n 0, 1) := by decide +kernel
theorem dX5_of_40 : decode cX5_of 40 = .ok (.getfield 10, 3) := by decide +kernel
theorem dX5_of_43 : decode cX5_of 43 = .ok (.iload_n 1, 1) := by decide +kernel
theorem dX5_of_44 : decode cX5_of 44 = .ok (.invokevirtual 119, 3) := by decide +kernel
theorem dX5_of_47 : decode cX5_of 47 = .ok (.ifCond .eq 7, 3) := by decide +kernel
theorem dX5_of_50 : decode cX5_of 50 = .ok (.iconst 1, 1) := by decide +kernel
theorem dX5_of_51 : decode cX5_of 51 = .ok (.goto 4, 3) := by decide +kernel
theorem dX5_of_54 : decode cX5_of 54 = .ok (.iconst 0, 1) := by decide +kernel
theorem dX5_of_55 : decode cX5_of 55 = .ok (.ireturn, 1) := by decide +kernel
set_option maxHeartbeats 400000 in
set_option maxRecDepth 20000 in
theorem t_X5_of (l : Launch) (ad : Nat → Nat) (D : va_G) (cs : Nat → ClassId) (h : Nat → Nat) (σ : Nat → Nat → Int32) (pre post : va_W) (n : Nat) (o w : Int32) (hN : σ 0 0 = nI n) (hn : n ≤ 8) (hR : rgM n (σ 0)) : CTi l yX5_of cX5_of 3 .int ({ frames := 2, cells := 0, slots := 0, locals := 43 }) ad D (tysW cs) (pre ++ (wX cs h σ ++ post)) [.ref (h 0), .int o, .int w] (ofA n (σ 0) o w) (pre ++ (wX cs h σ ++ post)) := by
  refine CTi.of (lv0 := [(0, .ref (h 0)), (1, .int o), (2, .int w)]) (by decide) rfl (Nat.le_of_ble_eq_true rfl) (fun p e s m args below meth c A C hr hlk => ?_)
  have C : Cx p s m args c cX5_of 3 RX5 ad D (tysW cs) A := C
  refine r_aload_n (pc := 0) C 0 dX5_of_0 rfl rfl ?_
  refine xg_now (pc := 1) C fl_RX5_10 dX5_of_1 ?_
  refine r_iload_n (pc := 4) C 1 dX5_of_4 rfl rfl ?_
  refine rc_Vi (pc := 5) C (t_X0_exists' l ad D cs (fun j => h (1 + j)) (fun _ => σ 0) (pre ++ xA_0 cs h σ) (xC_0 cs h σ ++ post) (σ 0) rfl n o hN hn) mv_X0_exists ml_RX5_116 rfl ⟨Nat.le_of_ble_eq_true rfl, Nat.le_of_ble_eq_true rfl⟩ ⟨rfl, rfl⟩ (q0 := 0) rfl rfl rfl fx_0 fx_0.symm rfl (Nat.le_of_ble_eq_true rfl) dX5_of_5 ?_
  refine r_if_eq (pc := 8) C 20 dX5_of_8 (by decide) (fun c_1 => ?_) (fun c_1 => ?_)
  · skip
    have c_1 := bI_0.mp c_1
    refine r_iconst (pc := 20) C (-1) dX5_of_20 (by decide) ?_
    exact r_iret (pc := 21) C hr hlk dX5_of_21 rfl (by first | (simp [ofA, *]; done) | simp_all [ofA]) rfl
  · skip
    have c_1 := bI_n.mp c_1
    obtain ⟨j, h_j, rfl⟩ := one_nat (by omega) c_1
    have e_j : (nI j).toNatClampNeg = j := nI_clamp (by omega)
    refine r_iload_n (pc := 11) C 2 dX5_of_11 rfl rfl ?_
    refine r_iconst (pc := 12) C 0 dX5_of_12 (by decide) ?_
    refine r_iconst (pc := 13) C 5 dX5_of_13 (by decide) ?_
    refine rc_Si (pc := 14) C (t_X5_isWithin l ad D (tysW cs) (wX cs h σ) pre post  w (0 : Int32) (5 : Int32) ) ms_X5_isWithin ml_RX5_59 rfl ⟨Nat.le_of_ble_eq_true rfl, Nat.le_of_ble_eq_true rfl⟩ ⟨rfl, rfl⟩ rfl rfl rfl (Nat.le_of_ble_eq_true rfl) dX5_of_14 ?_
    refine r_if_ne (pc := 17) C 22 dX5_of_17 (by decide) (fun c_2 => ?_) (fun c_2 => ?_)
    · skip
      have c_2 := bI_n.mp c_2
      obtain ⟨k, l_k, h_k, rfl⟩ := rng_nat 0 5 (by decide) (by decide) c_2
      have e_k : (nI k).toNatClampNeg = k := nI_clamp (by omega)
      refine r_iload_n (pc := 22) C 2 dX5_of_22 rfl rfl ?_
      refine r_iconst (pc := 23) C 5 dX5_of_23 (by decide) ?_
      refine r_icmp_ge (pc := 24) C 39 dX5_of_24 (by decide) (fun c_3 => ?_) (fun c_3 => ?_)
      · skip
        have c_3 := nIc_ge_t (a := k) (b := 5) (by omega) (by omega) c_3
        refine r_aload_n (pc := 39) C 0 dX5_of_39 rfl rfl ?_
        refine xg_now (pc := 40) C fl_RX5_10 dX5_of_40 ?_
        refine r_iload_n (pc := 43) C 1 dX5_of_43 rfl rfl ?_
        refine rc_Vi (pc := 44) C (t_X0_isOnSteps' l ad D cs (fun j => h (1 + j)) (fun _ => σ 0) (pre ++ xA_0 cs h σ) (xC_0 cs h σ ++ post) (σ 0) rfl n j hN hn h_j) mv_X0_isOnSteps ml_RX5_119 rfl ⟨Nat.le_of_ble_eq_true rfl, Nat.le_of_ble_eq_true rfl⟩ ⟨rfl, rfl⟩ (q0 := 0) rfl rfl rfl fx_0 fx_0.symm rfl (Nat.le_of_ble_eq_true rfl) dX5_of_44 ?_
        refine r_if_eq (pc := 47) C 54 dX5_of_47 (by decide) (fun c_4 => ?_) (fun c_4 => ?_)
        · skip
          have c_4 := bI_0.mp c_4
          refine r_iconst (pc := 54) C 0 dX5_of_54 (by decide) ?_
          exact r_iret (pc := 55) C hr hlk dX5_of_55 rfl (by first | (simp [ofA, *]; done) | simp_all [ofA]) rfl
        · skip
          have c_4 := bI_n.mp c_4
          refine r_iconst (pc := 50) C 1 dX5_of_50 (by decide) ?_
          refine r_goto (pc := 51) C 55 dX5_of_51 (by decide) ?_
          exact r_iret (pc := 55) C hr hlk dX5_of_55 rfl (by first | (simp [ofA, *]; done) | simp_all [ofA]) rfl
      · skip
        have c_3 := nIc_ge_f (a := k) (b := 5) (by omega) (by omega) c_3
        refine r_aload_n (pc := 27) C 0 dX5_of_27 rfl rfl ?_
        refine xg_now (pc := 28) C fl_RX5_10 dX5_of_28 ?_
        refine xg_has_0 (pc := 31) C fl_RX5_113 dX5_of_31 ?_
        refine r_iload_n (pc := 34) C 2 dX5_of_34 rfl rfl ?_
        refine xa_has_0 (pc := 35) C k (rfl) (by omega) dX5_of_35 ?_
        refine r_iload_n (pc := 36) C 1 dX5_of_36 rfl rfl ?_
        refine xl_row_0 (pc := 37) C k (by omega) j (rfl) (by omega) dX5_of_37 (σ 0 (8 + 5 * j + k)) rfl ?_
        exact r_iret (pc := 38) C hr hlk dX5_of_38 rfl (by first | (simp [ofA, *]; done) | simp_all [ofA]) rfl
    · skip
      have c_2 := bI_0.mp c_2
      refine r_iconst (pc := 20) C (-1) dX5_of_20 (by decide) ?_
      exact r_iret (pc := 21) C hr hlk dX5_of_21 rfl (by first | (simp [ofA, *]; done) | simp_all [ofA]) rfl
theorem t_X5_of' (l : Launch) (ad : Nat → Nat) (D : va_G) (cs : Nat → ClassId) (h : Nat → Nat) (σ : Nat → Nat → Int32) (pre post : va_W) (f0_ : Nat → Int32) (e0_ : σ 0 = f0_) (n : Nat) (o w : Int32) (hN : f0_ 0 = nI n) (hn : n ≤ 8) (hR : rgM n f0_) : CTi l yX5_of cX5_of 3 .int ({ frames := 2, cells := 0, slots := 0, locals := 43 }) ad D (tysW cs) (pre ++ (wX cs h σ ++ post)) [.ref (h 0), .int o, .int w] (ofA n f0_ o w) (pre ++ (wX cs h σ ++ post)) := by
  subst e0_
  exact t_X5_of l ad D cs h σ pre post n o w hN hn hR
theorem dX5_does_0 : decode cX5_does 0 = .ok (.aload_n 0, 1) := by decide +kernel
theorem dX5_does_1 : decode cX5_does 1 = .ok (.getfield 10, 3) := by decide +kernel
theorem dX5_does_4 : decode cX5_does 4 = .ok (.iload_n 1, 1) := by decide +kernel
theorem dX5_does_5 : decode cX5_does 5 = .ok (.invokevirtual 116, 3) := by decide +kernel
theorem dX5_does_8 : decode cX5_does 8 = .ok (.ifCond .eq 12, 3) := by decide +kernel
theorem dX5_does_11 : decode cX5_does 11 = .ok (.iload_n 2, 1) := by decide +kernel
theorem dX5_does_12 : decode cX5_does 12 = .ok (.iconst 0, 1) := by decide +kernel
theorem dX5_does_13 : decode cX5_does 13 = .ok (.iconst 1, 1) := by decide +kernel
theorem dX5_does_14 : decode cX5_does 14 = .ok (.invokestatic 59, 3) := by decide +kernel
theorem dX5_does_17 : decode cX5_does 17 = .ok (.ifCond .ne 5, 3) := by decide +kernel
theorem dX5_does_20 : decode cX5_does 20 = .ok (.iconst (-1), 1) := by decide +kernel
theorem dX5_does_21 : decode cX5_does 21 = .ok (.ireturn, 1) := by decide +kernel
theorem dX5_does_22 : decode cX5_does 22 = .ok (.sipush 1000, 3) := by decide +kernel
theorem dX5_does_25 : decode cX5_does 25 = .ok (.iload_n 2, 1) := by decide +kernel
theorem dX5_does_26 : decode cX5_does 26 = .ok (.ifCond .ne 14, 3) := by decide +kernel
theorem dX5_does_29 : decode cX5_does 29 = .ok (.aload_n 0, 1) := by decide +kernel
theorem dX5_does_30 : decode cX5_does 30 = .ok (.getfield 10, 3) := by decide +kernel
theorem dX5_does_33 : decode cX5_does 33 = .ok (.iload_n 1, 1) := by decide +kernel
theorem dX5_does_34 : decode cX5_does 34 = .ok (.invokevirtual 122, 3) := by decide +kernel
theorem dX5_does_37 : decode cX5_does 37 = .ok (.goto 11, 3) := by decide +kernel
theorem dX5_does_40 : decode cX5_does 40 = .ok (.aload_n 0, 1) := by decide +kernel
theorem dX5_does_41 : decode cX5_does 41 = .ok (.getfield 10, 3) := by decide +kernel
theorem dX5_does_44 : decode cX5_does 44 = .ok (.iload_n 1, 1) := by decide +kernel
theorem dX5_does_45 : decode cX5_does 45 = .ok (.invokevirtual 125, 3) := by decide +kernel
theorem dX5_does_48 : decode cX5_does 48 = .ok (.iadd, 1) := by decide +kernel
theorem dX5_does_49 : decode cX5_does 49 = .ok (.ireturn, 1) := by decide +kernel
set_option maxHeartbeats 400000 in
set_option maxRecDepth 20000 in
theorem t_X5_does (l : Launch) (ad : Nat → Nat) (D : va_G) (cs : Nat → ClassId) (h : Nat → Nat) (σ : Nat → Nat → Int32) (pre post : va_W) (n : Nat) (o w : Int32) (hN : σ 0 0 = nI n) (hn : n ≤ 8) (hR : rgM n (σ 0)) : CTi l yX5_does cX5_does 3 .int ({ frames := 2, cells := 0, slots := 0, locals := 43 }) ad D (tysW cs) (pre ++ (wX cs h σ ++ post)) [.ref (h 0), .int o, .int w] (doesA n (σ 0) o w) (pre ++ (wX cs h σ ++ post)) := by
  refine CTi.of (lv0 := [(0, .ref (h 0)), (1, .int o), (2, .int w)]) (by decide) rfl (Nat.le_of_ble_eq_true rfl) (fun p e s m args below meth c A C hr hlk => ?_)
  have C : Cx p s m args c cX5_does 3 RX5 ad D (tysW cs) A := C
  refine r_aload_n (pc := 0) C 0 dX5_does_0 rfl rfl ?_
  refine xg_now (pc := 1) C fl_RX5_10 dX5_does_1 ?_
  refine r_iload_n (pc := 4) C 1 dX5_does_4 rfl rfl ?_
  refine rc_Vi (pc := 5) C (t_X0_exists' l ad D cs (fun j => h (1 + j)) (fun _ => σ 0) (pre ++ xA_0 cs h σ) (xC_0 cs h σ ++ post) (σ 0) rfl n o hN hn) mv_X0_exists ml_RX5_116 rfl ⟨Nat.le_of_ble_eq_true rfl, Nat.le_of_ble_eq_true rfl⟩ ⟨rfl, rfl⟩ (q0 := 0) rfl rfl rfl fx_0 fx_0.symm rfl (Nat.le_of_ble_eq_true rfl) dX5_does_5 ?_
  refine r_if_eq (pc := 8) C 20 dX5_does_8 (by decide) (fun c_1 => ?_) (fun c_1 => ?_)
  · skip
    have c_1 := bI_0.mp c_1
    refine r_iconst (pc := 20) C (-1) dX5_does_20 (by decide) ?_
    exact r_iret (pc := 21) C hr hlk dX5_does_21 rfl (by first | (simp [doesA, *]; done) | simp_all [doesA]) rfl
  · skip
    have c_1 := bI_n.mp c_1
    obtain ⟨j, h_j, rfl⟩ := one_nat (by omega) c_1
    have e_j : (nI j).toNatClampNeg = j := nI_clamp (by omega)
    refine r_iload_n (pc := 11) C 2 dX5_does_11 rfl rfl ?_
    refine r_iconst (pc := 12) C 0 dX5_does_12 (by decide) ?_
    refine r_iconst (pc := 13) C 1 dX5_does_13 (by decide) ?_
    refine rc_Si (pc := 14) C (t_X5_isWithin l ad D (tysW cs) (wX cs h σ) pre post  w (0 : Int32) (1 : Int32) ) ms_X5_isWithin ml_RX5_59 rfl ⟨Nat.le_of_ble_eq_true rfl, Nat.le_of_ble_eq_true rfl⟩ ⟨rfl, rfl⟩ rfl rfl rfl (Nat.le_of_ble_eq_true rfl) dX5_does_14 ?_
    refine r_if_ne (pc := 17) C 22 dX5_does_17 (by decide) (fun c_2 => ?_) (fun c_2 => ?_)
    · skip
      have c_2 := bI_n.mp c_2
      refine r_sipush (pc := 22) C 1000 dX5_does_22 (by decide) ?_
      refine r_iload_n (pc := 25) C 2 dX5_does_25 rfl rfl ?_
      refine r_if_ne (pc := 26) C 40 dX5_does_26 (by decide) (fun c_3 => ?_) (fun c_3 => ?_)
      · skip
        refine r_aload_n (pc := 40) C 0 dX5_does_40 rfl rfl ?_
        refine xg_now (pc := 41) C fl_RX5_10 dX5_does_41 ?_
        refine r_iload_n (pc := 44) C 1 dX5_does_44 rfl rfl ?_
        refine rc_Vi (pc := 45) C (t_X0_frays' l ad D cs (fun j => h (1 + j)) (fun _ => σ 0) (pre ++ xA_0 cs h σ) (xC_0 cs h σ ++ post) (σ 0) rfl n j hN hn h_j) mv_X0_frays ml_RX5_125 rfl ⟨Nat.le_of_ble_eq_true rfl, Nat.le_of_ble_eq_true rfl⟩ ⟨rfl, rfl⟩ (q0 := 0) rfl rfl rfl fx_0 fx_0.symm rfl (Nat.le_of_ble_eq_true rfl) dX5_does_45 ?_
        refine r_iadd (pc := 48) C dX5_does_48 ?_
        exact r_iret (pc := 49) C hr hlk dX5_does_49 rfl (by first | (simp [doesA, *]; done) | simp_all [doesA]) rfl
      · skip
        refine r_aload_n (pc := 29) C 0 dX5_does_29 rfl rfl ?_
        refine xg_now (pc := 30) C fl_RX5_10 dX5_does_30 ?_
        refine r_iload_n (pc := 33) C 1 dX5_does_33 rfl rfl ?_
        refine rc_Vi (pc := 34) C (t_X0_wears' l ad D cs (fun j => h (1 + j)) (fun _ => σ 0) (pre ++ xA_0 cs h σ) (xC_0 cs h σ ++ post) (σ 0) rfl n j hN hn h_j hR) mv_X0_wears ml_RX5_122 rfl ⟨Nat.le_of_ble_eq_true rfl, Nat.le_of_ble_eq_true rfl⟩ ⟨rfl, rfl⟩ (q0 := 0) rfl rfl rfl fx_0 fx_0.symm rfl (Nat.le_of_ble_eq_true rfl) dX5_does_34 ?_
        refine r_goto (pc := 37) C 48 dX5_does_37 (by decide) ?_
        refine r_iadd (pc := 48) C dX5_does_48 ?_
        exact r_iret (pc := 49) C hr hlk dX5_does_49 rfl (by first | (simp [doesA, *]; done) | simp_all [doesA]) rfl
    · skip
      have c_2 := bI_0.mp c_2
      refine r_iconst (pc := 20) C (-1) dX5_does_20 (by decide) ?_
      exact r_iret (pc := 21) C hr hlk dX5_does_21 rfl (by first | (simp [doesA, *]; done) | simp_all [doesA]) rfl
theorem t_X5_does' (l : Launch) (ad : Nat → Nat) (D : va_G) (cs : Nat → ClassId) (h : Nat → Nat) (σ : Nat → Nat → Int32) (pre post : va_W) (f0_ : Nat → Int32) (e0_ : σ 0 = f0_) (n : Nat) (o w : Int32) (hN : f0_ 0 = nI n) (hn : n ≤ 8) (hR : rgM n f0_) : CTi l yX5_does cX5_does 3 .int ({ frames := 2, cells := 0, slots := 0, locals := 43 }) ad D (tysW cs) (pre ++ (wX cs h σ ++ post)) [.ref (h 0), .int o, .int w] (doesA n f0_ o w) (pre ++ (wX cs h σ ++ post)) := by
  subst e0_
  exact t_X5_does l ad D cs h σ pre post n o w hN hn hR
theorem dX5_looks_0 : decode cX5_looks 0 = .ok (.aload_n 0, 1) := by decide +kernel
theorem dX5_looks_1 : decode cX5_looks 1 = .ok (.getfield 10, 3) := by decide +kernel
theorem dX5_looks_4 : decode cX5_looks 4 = .ok (.iload_n 1, 1) := by decide +kernel
theorem dX5_looks_5 : decode cX5_looks 5 = .ok (.iload_n 2, 1) := by decide +kernel
theorem dX5_looks_6 : decode cX5_looks 6 = .ok (.invokevirtual 128, 3) := by decide +kernel
theorem dX5_looks_9 : decode cX5_looks 9 = .ok (.ifCond .eq 12, 3) := by decide +kernel
theorem dX5_looks_12 : decode cX5_looks 12 = .ok (.iload_n 3, 1) := by decide +kernel
theorem dX5_looks_13 : decode cX5_looks 13 = .ok (.iconst 0, 1) := by decide +kernel
theorem dX5_looks_14 : decode cX5_looks 14 = .ok (.iconst 1, 1) := by decide +kernel
theorem dX5_looks_15 : decode cX5_looks 15 = .ok (.invokestatic 59, 3) := by decide +kernel
theorem dX5_looks_18 : decode cX5_looks 18 = .ok (.ifCond .ne 5, 3) := by decide +kernel
theorem dX5_looks_21 : decode cX5_looks 21 = .ok (.iconst (-1), 1) := by decide +kernel
theorem dX5_looks_22 : decode cX5_looks 22 = .ok (.ireturn, 1) := by decide +kernel
theorem dX5_looks_23 : decode cX5_looks 23 = .ok (.sipush 1000, 3) := by decide +kernel
theorem dX5_looks_26 : decode cX5_looks 26 = .ok (.iload_n 3, 1) := by decide +kernel
theorem dX5_looks_27 : decode cX5_looks 27 = .ok (.ifCond .ne 15, 3) := by decide +kernel
theorem dX5_looks_30 : decode cX5_looks 30 = .ok (.aload_n 0, 1) := by decide +kernel
theorem dX5_looks_31 : decode cX5_looks 31 = .ok (.getfield 10, 3) := by decide +kernel
theorem dX5_looks_34 : decode cX5_looks 34 = .ok (.iload_n 1, 1) := by decide +kernel
theorem dX5_looks_35 : decode cX5_looks 35 = .ok (.iload_n 2, 1) := by decide +kernel
theorem dX5_looks_36 : decode cX5_looks 36 = .ok (.invokevirtual 131, 3) := by decide +kernel
theorem dX5_looks_39 : decode cX5_looks 39 = .ok (.goto 12, 3) := by decide +kernel
theorem dX5_looks_42 : decode cX5_looks 42 = .ok (.aload_n 0, 1) := by decide +kernel
theorem dX5_looks_43 : decode cX5_looks 43 = .ok (.getfield 10, 3) := by decide +kernel
theorem dX5_looks_46 : decode cX5_looks 46 = .ok (.iload_n 1, 1) := by decide +kernel
theorem dX5_looks_47 : decode cX5_looks 47 = .ok (.iload_n 2, 1) := by decide +kernel
theorem dX5_looks_48 : decode cX5_looks 48 = .ok (.invokevirtual 135, 3) := by decide +kernel
theorem dX5_looks_51 : decode cX5_looks 51 = .ok (.iadd, 1) := by decide +kernel
theorem dX5_looks_52 : decode cX5_looks 52 = .ok (.ireturn, 1) := by decide +kernel
set_option maxHeartbeats 400000 in
set_option maxRecDepth 20000 in
theorem t_X5_looks (l : Launch) (ad : Nat → Nat) (D : va_G) (cs : Nat → ClassId) (h : Nat → Nat) (σ : Nat → Nat → Int32) (pre post : va_W) (n : Nat) (o q w : Int32) (hN : σ 0 0 = nI n) (hn : n ≤ 8) (hR : rgM n (σ 0)) : CTi l yX5_looks cX5_looks 4 .int ({ frames := 3, cells := 0, slots := 0, locals := 68 }) ad D (tysW cs) (pre ++ (wX cs h σ ++ post)) [.ref (h 0), .int o, .int q, .int w] (looksA n (σ 0) o q w) (pre ++ (wX cs h σ ++ post)) := by
  refine CTi.of (lv0 := [(0, .ref (h 0)), (1, .int o), (2, .int q), (3, .int w)]) (by decide) rfl (Nat.le_of_ble_eq_true rfl) (fun p e s m args below meth c A C hr hlk => ?_)
  have C : Cx p s m args c cX5_looks 4 RX5 ad D (tysW cs) A := C
  refine r_aload_n (pc := 0) C 0 dX5_looks_0 rfl rfl ?_
  refine xg_now (pc := 1) C fl_RX5_10 dX5_looks_1 ?_
  refine r_iload_n (pc := 4) C 1 dX5_looks_4 rfl rfl ?_
  refine r_iload_n (pc := 5) C 2 dX5_looks_5 rfl rfl ?_
  refine rc_Vi (pc := 6) C (t_X0_areTwo' l ad D cs (fun j => h (1 + j)) (fun _ => σ 0) (pre ++ xA_0 cs h σ) (xC_0 cs h σ ++ post) (σ 0) rfl n o q hN hn) mv_X0_areTwo ml_RX5_128 rfl ⟨Nat.le_of_ble_eq_true rfl, Nat.le_of_ble_eq_true rfl⟩ ⟨rfl, rfl⟩ (q0 := 0) rfl rfl rfl fx_0 fx_0.symm rfl (Nat.le_of_ble_eq_true rfl) dX5_looks_6 ?_
  refine r_if_eq (pc := 9) C 21 dX5_looks_9 (by decide) (fun c_1 => ?_) (fun c_1 => ?_)
  · skip
    have c_1 := bI_0.mp c_1
    refine r_iconst (pc := 21) C (-1) dX5_looks_21 (by decide) ?_
    exact r_iret (pc := 22) C hr hlk dX5_looks_22 rfl (by first | (simp [looksA, *]; done) | simp_all [looksA]) rfl
  · skip
    have c_1 := bI_n.mp c_1
    obtain ⟨a_2, b_2, d_2⟩ := two_of c_1
    obtain ⟨j, h_j, rfl⟩ := one_nat (by omega) a_2
    have e_j : (nI j).toNatClampNeg = j := nI_clamp (by omega)
    obtain ⟨i, h_i, rfl⟩ := one_nat (by omega) b_2
    have e_i : (nI i).toNatClampNeg = i := nI_clamp (by omega)
    refine r_iload_n (pc := 12) C 3 dX5_looks_12 rfl rfl ?_
    refine r_iconst (pc := 13) C 0 dX5_looks_13 (by decide) ?_
    refine r_iconst (pc := 14) C 1 dX5_looks_14 (by decide) ?_
    refine rc_Si (pc := 15) C (t_X5_isWithin l ad D (tysW cs) (wX cs h σ) pre post  w (0 : Int32) (1 : Int32) ) ms_X5_isWithin ml_RX5_59 rfl ⟨Nat.le_of_ble_eq_true rfl, Nat.le_of_ble_eq_true rfl⟩ ⟨rfl, rfl⟩ rfl rfl rfl (Nat.le_of_ble_eq_true rfl) dX5_looks_15 ?_
    refine r_if_ne (pc := 18) C 23 dX5_looks_18 (by decide) (fun c_3 => ?_) (fun c_3 => ?_)
    · skip
      have c_3 := bI_n.mp c_3
      refine r_sipush (pc := 23) C 1000 dX5_looks_23 (by decide) ?_
      refine r_iload_n (pc := 26) C 3 dX5_looks_26 rfl rfl ?_
      refine r_if_ne (pc := 27) C 42 dX5_looks_27 (by decide) (fun c_4 => ?_) (fun c_4 => ?_)
      · skip
        refine r_aload_n (pc := 42) C 0 dX5_looks_42 rfl rfl ?_
        refine xg_now (pc := 43) C fl_RX5_10 dX5_looks_43 ?_
        refine r_iload_n (pc := 46) C 1 dX5_looks_46 rfl rfl ?_
        refine r_iload_n (pc := 47) C 2 dX5_looks_47 rfl rfl ?_
        refine rc_Vi (pc := 48) C (t_X0_offers' l ad D cs (fun j => h (1 + j)) (fun _ => σ 0) (pre ++ xA_0 cs h σ) (xC_0 cs h σ ++ post) (σ 0) rfl n j i hN hn h_j h_i hR) mv_X0_offers ml_RX5_135 rfl ⟨Nat.le_of_ble_eq_true rfl, Nat.le_of_ble_eq_true rfl⟩ ⟨rfl, rfl⟩ (q0 := 0) rfl rfl rfl fx_0 fx_0.symm rfl (Nat.le_of_ble_eq_true rfl) dX5_looks_48 ?_
        refine r_iadd (pc := 51) C dX5_looks_51 ?_
        exact r_iret (pc := 52) C hr hlk dX5_looks_52 rfl (by first | (simp [looksA, *]; done) | simp_all [looksA]) rfl
      · skip
        refine r_aload_n (pc := 30) C 0 dX5_looks_30 rfl rfl ?_
        refine xg_now (pc := 31) C fl_RX5_10 dX5_looks_31 ?_
        refine r_iload_n (pc := 34) C 1 dX5_looks_34 rfl rfl ?_
        refine r_iload_n (pc := 35) C 2 dX5_looks_35 rfl rfl ?_
        refine rc_Vi (pc := 36) C (t_X0_sees' l ad D cs (fun j => h (1 + j)) (fun _ => σ 0) (pre ++ xA_0 cs h σ) (xC_0 cs h σ ++ post) (σ 0) rfl n j i hN hn h_j h_i hR) mv_X0_sees ml_RX5_131 rfl ⟨Nat.le_of_ble_eq_true rfl, Nat.le_of_ble_eq_true rfl⟩ ⟨rfl, rfl⟩ (q0 := 0) rfl rfl rfl fx_0 fx_0.symm rfl (Nat.le_of_ble_eq_true rfl) dX5_looks_36 ?_
        refine r_goto (pc := 39) C 51 dX5_looks_39 (by decide) ?_
        refine r_iadd (pc := 51) C dX5_looks_51 ?_
        exact r_iret (pc := 52) C hr hlk dX5_looks_52 rfl (by first | (simp [looksA, *]; done) | simp_all [looksA]) rfl
    · skip
      have c_3 := bI_0.mp c_3
      refine r_iconst (pc := 21) C (-1) dX5_looks_21 (by decide) ?_
      exact r_iret (pc := 22) C hr hlk dX5_looks_22 rfl (by first | (simp [looksA, *]; done) | simp_all [looksA]) rfl
theorem t_X5_looks' (l : Launch) (ad : Nat → Nat) (D : va_G) (cs : Nat → ClassId) (h : Nat → Nat) (σ : Nat → Nat → Int32) (pre post : va_W) (f0_ : Nat → Int32) (e0_ : σ 0 = f0_) (n : Nat) (o q w : Int32) (hN : f0_ 0 = nI n) (hn : n ≤ 8) (hR : rgM n f0_) : CTi l yX5_looks cX5_looks 4 .int ({ frames := 3, cells := 0, slots := 0, locals := 68 }) ad D (tysW cs) (pre ++ (wX cs h σ ++ post)) [.ref (h 0), .int o, .int q, .int w] (looksA n f0_ o q w) (pre ++ (wX cs h σ ++ post)) := by
  subst e0_
  exact t_X5_looks l ad D cs h σ pre post n o q w hN hn hR
theorem dX5_mind_0 : decode cX5_mind 0 = .ok (.aload_n 0, 1) := by decide +kernel
theorem dX5_mind_1 : decode cX5_mind 1 = .ok (.getfield 10, 3) := by decide +kernel
theorem dX5_mind_4 : decode cX5_mind 4 = .ok (.iload_n 1, 1) := by decide +kernel
theorem dX5_mind_5 : decode cX5_mind 5 = .ok (.invokevirtual 116, 3) := by decide +kernel
theorem dX5_mind_8 : decode cX5_mind 8 = .ok (.ifCond .eq 19, 3) := by decide +kernel
theorem dX5_mind_11 : decode cX5_mind 11 = .ok (.iconst 0, 1) := by decide +kernel
theorem dX5_mind_12 : decode cX5_mind 12 = .ok (.iload_n 2, 1) := by decide +kernel
theorem dX5_mind_13 : decode cX5_mind 13 = .ok (.invokestatic 101, 3) := by decide +kernel
theorem dX5_mind_16 : decode cX5_mind 16 = .ok (.ifCond .eq 11, 3) := by decide +kernel
theorem dX5_mind_19 : decode cX5_mind 19 = .ok (.iconst 2, 1) := by decide +kernel
theorem dX5_mind_20 : decode cX5_mind 20 = .ok (.iload_n 3, 1) := by decide +kernel
theorem dX5_mind_21 : decode cX5_mind 21 = .ok (.invokestatic 101, 3) := by decide +kernel
theorem dX5_mind_24 : decode cX5_mind 24 = .ok (.ifCond .ne 5, 3) := by decide +kernel
theorem dX5_mind_27 : decode cX5_mind 27 = .ok (.iconst (-1), 1) := by decide +kernel
theorem dX5_mind_28 : decode cX5_mind 28 = .ok (.ireturn, 1) := by decide +kernel
theorem dX5_mind_29 : decode cX5_mind 29 = .ok (.aload_n 0, 1) := by decide +kernel
theorem dX5_mind_30 : decode cX5_mind 30 = .ok (.getfield 10, 3) := by decide +kernel
theorem dX5_mind_33 : decode cX5_mind 33 = .ok (.getfield 113, 3) := by decide +kernel
theorem dX5_mind_36 : decode cX5_mind 36 = .ok (.iconst 0, 1) := by decide +kernel
theorem dX5_mind_37 : decode cX5_mind 37 = .ok (.aaload, 1) := by decide +kernel
theorem dX5_mind_38 : decode cX5_mind 38 = .ok (.iload_n 1, 1) := by decide +kernel
theorem dX5_mind_39 : decode cX5_mind 39 = .ok (.iaload, 1) := by decide +kernel
theorem dX5_mind_40 : decode cX5_mind 40 = .ok (.istore 4, 2) := by decide +kernel
theorem dX5_mind_42 : decode cX5_mind 42 = .ok (.aload_n 0, 1) := by decide +kernel
theorem dX5_mind_43 : decode cX5_mind 43 = .ok (.getfield 10, 3) := by decide +kernel
theorem dX5_mind_46 : decode cX5_mind 46 = .ok (.getfield 113, 3) := by decide +kernel
theorem dX5_mind_49 : decode cX5_mind 49 = .ok (.iconst 0, 1) := by decide +kernel
theorem dX5_mind_50 : decode cX5_mind 50 = .ok (.aaload, 1) := by decide +kernel
theorem dX5_mind_51 : decode cX5_mind 51 = .ok (.iload_n 1, 1) := by decide +kernel
theorem dX5_mind_52 : decode cX5_mind 52 = .ok (.iload_n 2, 1) := by decide +kernel
theorem dX5_mind_53 : decode cX5_mind 53 = .ok (.iastore, 1) := by decide +kernel
theorem dX5_mind_54 : decode cX5_mind 54 = .ok (.aload_n 0, 1) := by decide +kernel
theorem dX5_mind_55 : decode cX5_mind 55 = .ok (.getfield 10, 3) := by decide +kernel
theorem dX5_mind_58 : decode cX5_mind 58 = .ok (.getfield 113, 3) := by decide +kernel
theorem dX5_mind_61 : decode cX5_mind 61 = .ok (.iconst 2, 1) := by decide +kernel
theorem dX5_mind_62 : decode cX5_mind 62 = .ok (.aaload, 1) := by decide +kernel
theorem dX5_mind_63 : decode cX5_mind 63 = .ok (.iload_n 1, 1) := by decide +kernel
theorem dX5_mind_64 : decode cX5_mind 64 = .ok (.iload_n 3, 1) := by decide +kernel
theorem dX5_mind_65 : decode cX5_mind 65 = .ok (.iastore, 1) := by decide +kernel
theorem dX5_mind_66 : decode cX5_mind 66 = .ok (.iload 4, 2) := by decide +kernel
theorem dX5_mind_68 : decode cX5_mind 68 = .ok (.ireturn, 1) := by decide +kernel
set_option maxHeartbeats 400000 in
set_option maxRecDepth 20000 in
theorem t_X5_mind (l : Launch) (ad : Nat → Nat) (D : va_G) (cs : Nat → ClassId) (h : Nat → Nat) (σ : Nat → Nat → Int32) (pre post : va_W) (n : Nat) (o k w : Int32) (hN : σ 0 0 = nI n) (hn : n ≤ 8) (hR : rgM n (σ 0)) : CTi l yX5_mind cX5_mind 5 .int ({ frames := 2, cells := 0, slots := 0, locals := 43 }) ad D (tysW cs) (pre ++ (wX cs h σ ++ post)) [.ref (h 0), .int o, .int k, .int w] (gateI (oneB n o && (inB k 0 5 && inB w 0 99)) (σ 0 (8 + 5 * o.toNatClampNeg)) (-1)) (pre ++ (wX cs h (su σ 0 (gateF (oneB n o && (inB k 0 5 && inB w 0 99)) (upd (upd (σ 0) (8 + 5 * o.toNatClampNeg + 2) w) (8 + 5 * o.toNatClampNeg) k) (σ 0))) ++ post)) := by
  refine CTi.of (lv0 := [(0, .ref (h 0)), (1, .int o), (2, .int k), (3, .int w)]) (by decide) rfl (Nat.le_of_ble_eq_true rfl) (fun p e s m args below meth c A C hr hlk => ?_)
  have C : Cx p s m args c cX5_mind 5 RX5 ad D (tysW cs) A := C
  refine r_aload_n (pc := 0) C 0 dX5_mind_0 rfl rfl ?_
  refine xg_now (pc := 1) C fl_RX5_10 dX5_mind_1 ?_
  refine r_iload_n (pc := 4) C 1 dX5_mind_4 rfl rfl ?_
  refine rc_Vi (pc := 5) C (t_X0_exists' l ad D cs (fun j => h (1 + j)) (fun _ => σ 0) (pre ++ xA_0 cs h σ) (xC_0 cs h σ ++ post) (σ 0) rfl n o hN hn) mv_X0_exists ml_RX5_116 rfl ⟨Nat.le_of_ble_eq_true rfl, Nat.le_of_ble_eq_true rfl⟩ ⟨rfl, rfl⟩ (q0 := 0) rfl rfl rfl fx_0 fx_0.symm rfl (Nat.le_of_ble_eq_true rfl) dX5_mind_5 ?_
  refine r_if_eq (pc := 8) C 27 dX5_mind_8 (by decide) (fun c_1 => ?_) (fun c_1 => ?_)
  · skip
    have c_1 := bI_0.mp c_1
    refine r_iconst (pc := 27) C (-1) dX5_mind_27 (by decide) ?_
    exact r_iret (pc := 28) C hr hlk dX5_mind_28 rfl (by first | rfl | (simp [gateI, gateF, *]; done) | simp_all [gateI, gateF]) (by rw [show (gateF (oneB n o && (inB k 0 5 && inB w 0 99)) (upd (upd (σ 0) (8 + 5 * o.toNatClampNeg + 2) w) (8 + 5 * o.toNatClampNeg) k) (σ 0) : Nat → Int32) = σ 0 from (by first | rfl | (simp [gateI, gateF, *]; done) | simp_all [gateI, gateF])] <;> rfl)
  · skip
    have c_1 := bI_n.mp c_1
    obtain ⟨j, h_j, rfl⟩ := one_nat (by omega) c_1
    have e_j : (nI j).toNatClampNeg = j := nI_clamp (by omega)
    refine r_iconst (pc := 11) C 0 dX5_mind_11 (by decide) ?_
    refine r_iload_n (pc := 12) C 2 dX5_mind_12 rfl rfl ?_
    refine rc_Si (pc := 13) C (t_X5_isTrait_0 l ad D (tysW cs) (wX cs h σ) pre post  k ) ms_X5_isTrait ml_RX5_101 rfl ⟨Nat.le_of_ble_eq_true rfl, Nat.le_of_ble_eq_true rfl⟩ ⟨rfl, rfl⟩ rfl rfl rfl (Nat.le_of_ble_eq_true rfl) dX5_mind_13 ?_
    refine r_if_eq (pc := 16) C 27 dX5_mind_16 (by decide) (fun c_2 => ?_) (fun c_2 => ?_)
    · skip
      have c_2 := bI_0.mp c_2
      refine r_iconst (pc := 27) C (-1) dX5_mind_27 (by decide) ?_
      exact r_iret (pc := 28) C hr hlk dX5_mind_28 rfl (by first | rfl | (simp [gateI, gateF, *]; done) | simp_all [gateI, gateF]) (by rw [show (gateF (oneB n (nI j) && (inB k 0 5 && inB w 0 99)) (upd (upd (σ 0) (8 + 5 * (nI j).toNatClampNeg + 2) w) (8 + 5 * (nI j).toNatClampNeg) k) (σ 0) : Nat → Int32) = σ 0 from (by first | rfl | (simp [gateI, gateF, *]; done) | simp_all [gateI, gateF])] <;> rfl)
    · skip
      have c_2 := bI_n.mp c_2
      refine r_iconst (pc := 19) C 2 dX5_mind_19 (by decide) ?_
      refine r_iload_n (pc := 20) C 3 dX5_mind_20 rfl rfl ?_
      refine rc_Si (pc := 21) C (t_X5_isTrait_2 l ad D (tysW cs) (wX cs h σ) pre post  w ) ms_X5_isTrait ml_RX5_101 rfl ⟨Nat.le_of_ble_eq_true rfl, Nat.le_of_ble_eq_true rfl⟩ ⟨rfl, rfl⟩ rfl rfl rfl (Nat.le_of_ble_eq_true rfl) dX5_mind_21 ?_
      refine r_if_ne (pc := 24) C 29 dX5_mind_24 (by decide) (fun c_3 => ?_) (fun c_3 => ?_)
      · skip
        have c_3 := bI_n.mp c_3
        refine r_aload_n (pc := 29) C 0 dX5_mind_29 rfl rfl ?_
        refine xg_now (pc := 30) C fl_RX5_10 dX5_mind_30 ?_
        refine xg_has_0 (pc := 33) C fl_RX5_113 dX5_mind_33 ?_
        refine r_iconst (pc := 36) C 0 dX5_mind_36 (by decide) ?_
        refine xa_has_0 (pc := 37) C 0 (rfl) (by omega) dX5_mind_37 ?_
        refine r_iload_n (pc := 38) C 1 dX5_mind_38 rfl rfl ?_
        refine xl_row_0 (pc := 39) C 0 (by decide) j (rfl) (by omega) dX5_mind_39 (σ 0 (8 + 5 * j)) rfl ?_
        refine r_istore (pc := 40) C [(4, .int (σ 0 (8 + 5 * j))), (0, .ref (h 0)), (1, .int (nI j)), (2, .int k), (3, .int w)] dX5_mind_40 (by decide) rfl ?_
        refine r_aload_n (pc := 42) C 1 dX5_mind_42 rfl rfl ?_
        refine xg_now (pc := 43) C fl_RX5_10 dX5_mind_43 ?_
        refine xg_has_0 (pc := 46) C fl_RX5_113 dX5_mind_46 ?_
        refine r_iconst (pc := 49) C 0 dX5_mind_49 (by decide) ?_
        refine xa_has_0 (pc := 50) C 0 (rfl) (by omega) dX5_mind_50 ?_
        refine r_iload_n (pc := 51) C 2 dX5_mind_51 rfl rfl ?_
        refine r_iload_n (pc := 52) C 3 dX5_mind_52 rfl rfl ?_
        refine xs_row_0 (pc := 53) C 0 (by decide) j (rfl) (by omega) dX5_mind_53 (8 + 5 * j) rfl (σ 0) (rfl) ?_
        refine r_aload_n (pc := 54) C 1 dX5_mind_54 rfl rfl ?_
        refine xg_now (pc := 55) C fl_RX5_10 dX5_mind_55 ?_
        refine xg_has_0 (pc := 58) C fl_RX5_113 dX5_mind_58 ?_
        refine r_iconst (pc := 61) C 2 dX5_mind_61 (by decide) ?_
        refine xa_has_0 (pc := 62) C 2 (rfl) (by omega) dX5_mind_62 ?_
        refine r_iload_n (pc := 63) C 2 dX5_mind_63 rfl rfl ?_
        refine r_iload_n (pc := 64) C 4 dX5_mind_64 rfl rfl ?_
        refine xs_row_0 (pc := 65) C 2 (by decide) j (rfl) (by omega) dX5_mind_65 (8 + 5 * j + 2) rfl (upd (σ 0) (8 + 5 * j) k) (su_at) ?_
        refine r_blk (blk' := wX cs h (su σ 0 (upd (upd (σ 0) (8 + 5 * j) k) (8 + 5 * j + 2) w))) (congrArg (wX cs h) (by rw [su_su])) ?_
        refine r_iload (pc := 66) C 0 dX5_mind_66 rfl ?_
        refine r_blk (blk' := wX cs h (su σ 0 (upd (upd (σ 0) (8 + 5 * j + 2) w) (8 + 5 * j) k))) (by rw [show (upd (upd (σ 0) (8 + 5 * j + 2) w) (8 + 5 * j) k : Nat → Int32) = upd (upd (σ 0) (8 + 5 * j) k) (8 + 5 * j + 2) w from Eq.symm (upd_comm (by omega))] <;> rfl) ?_
        exact r_iret (pc := 68) C hr hlk dX5_mind_68 rfl (by first | rfl | (simp [gateI, gateF, *]; done) | simp_all [gateI, gateF]) (by rw [show (gateF (oneB n (nI j) && (inB k 0 5 && inB w 0 99)) (upd (upd (σ 0) (8 + 5 * (nI j).toNatClampNeg + 2) w) (8 + 5 * (nI j).toNatClampNeg) k) (σ 0) : Nat → Int32) = upd (upd (σ 0) (8 + 5 * j + 2) w) (8 + 5 * j) k from (by first | rfl | (simp [gateI, gateF, *]; done) | simp_all [gateI, gateF])] <;> rfl)
      · skip
        have c_3 := bI_0.mp c_3
        refine r_iconst (pc := 27) C (-1) dX5_mind_27 (by decide) ?_
        exact r_iret (pc := 28) C hr hlk dX5_mind_28 rfl (by first | rfl | (simp [gateI, gateF, *]; done) | simp_all [gateI, gateF]) (by rw [show (gateF (oneB n (nI j) && (inB k 0 5 && inB w 0 99)) (upd (upd (σ 0) (8 + 5 * (nI j).toNatClampNeg + 2) w) (8 + 5 * (nI j).toNatClampNeg) k) (σ 0) : Nat → Int32) = σ 0 from (by first | rfl | (simp [gateI, gateF, *]; done) | simp_all [gateI, gateF])] <;> rfl)
theorem t_X5_mind' (l : Launch) (ad : Nat → Nat) (D : va_G) (cs : Nat → ClassId) (h : Nat → Nat) (σ : Nat → Nat → Int32) (pre post : va_W) (f0_ : Nat → Int32) (e0_ : σ 0 = f0_) (n : Nat) (o k w : Int32) (hN : f0_ 0 = nI n) (hn : n ≤ 8) (hR : rgM n f0_) : CTi l yX5_mind cX5_mind 5 .int ({ frames := 2, cells := 0, slots := 0, locals := 43 }) ad D (tysW cs) (pre ++ (wX cs h σ ++ post)) [.ref (h 0), .int o, .int k, .int w] (gateI (oneB n o && (inB k 0 5 && inB w 0 99)) (f0_ (8 + 5 * o.toNatClampNeg)) (-1)) (pre ++ (wX cs h (su σ 0 (gateF (oneB n o && (inB k 0 5 && inB w 0 99)) (upd (upd f0_ (8 + 5 * o.toNatClampNeg + 2) w) (8 + 5 * o.toNatClampNeg) k) f0_)) ++ post)) := by
  subst e0_
  exact t_X5_mind l ad D cs h σ pre post n o k w hN hn hR
theorem dX5_change_0 : decode cX5_change 0 = .ok (.iload_n 2, 1) := by decide +kernel
theorem dX5_change_1 : decode cX5_change 1 = .ok (.iconst 1, 1) := by decide +kernel
theorem dX5_change_2 : decode cX5_change 2 = .ok (.if_icmp .eq 13, 3) := by decide +kernel
theorem dX5_change_5 : decode cX5_change 5 = .ok (.iload_n 2, 1) := by decide +kernel
theorem dX5_change_6 : decode cX5_change 6 = .ok (.iconst 3, 1) := by decide +kernel
theorem dX5_change_7 : decode cX5_change 7 = .ok (.if_icmp .eq 8, 3) := by decide +kernel
theorem dX5_change_10 : decode cX5_change 10 = .ok (.iload_n 2, 1) := by decide +kernel
theorem dX5_change_11 : decode cX5_change 11 = .ok (.iconst 4, 1) := by decide +kernel
theorem dX5_change_12 : decode cX5_change 12 = .ok (.if_icmp .ne 7, 3) := by decide +kernel
theorem dX5_change_15 : decode cX5_change 15 = .ok (.iconst 1, 1) := by decide +kernel
theorem dX5_change_16 : decode cX5_change 16 = .ok (.goto 4, 3) := by decide +kernel
theorem dX5_change_19 : decode cX5_change 19 = .ok (.iconst 0, 1) := by decide +kernel
theorem dX5_change_20 : decode cX5_change 20 = .ok (.istore 4, 2) := by decide +kernel
theorem dX5_change_22 : decode cX5_change 22 = .ok (.aload_n 0, 1) := by decide +kernel
theorem dX5_change_23 : decode cX5_change 23 = .ok (.getfield 10, 3) := by decide +kernel
theorem dX5_change_26 : decode cX5_change 26 = .ok (.iload_n 1, 1) := by decide +kernel
theorem dX5_change_27 : decode cX5_change 27 = .ok (.invokevirtual 116, 3) := by decide +kernel
theorem dX5_change_30 : decode cX5_change 30 = .ok (.ifCond .eq 16, 3) := by decide +kernel
theorem dX5_change_33 : decode cX5_change 33 = .ok (.iload 4, 2) := by decide +kernel
theorem dX5_change_35 : decode cX5_change 35 = .ok (.ifCond .eq 11, 3) := by decide +kernel
theorem dX5_change_38 : decode cX5_change 38 = .ok (.iload_n 2, 1) := by decide +kernel
theorem dX5_change_39 : decode cX5_change 39 = .ok (.iload_n 3, 1) := by decide +kernel
theorem dX5_change_40 : decode cX5_change 40 = .ok (.invokestatic 101, 3) := by decide +kernel
theorem dX5_change_43 : decode cX5_change 43 = .ok (.ifCond .ne 5, 3) := by decide +kernel
theorem dX5_change_46 : decode cX5_change 46 = .ok (.iconst (-1), 1) := by decide +kernel
theorem dX5_change_47 : decode cX5_change 47 = .ok (.ireturn, 1) := by decide +kernel
theorem dX5_change_48 : decode cX5_change 48 = .ok (.aload_n 0, 1) := by decide +kernel
theorem dX5_change_49 : decode cX5_change 49 = .ok (.getfield 10, 3) := by decide +kernel
theorem dX5_change_52 : decode cX5_change 52 = .ok (.getfield 113, 3) := by decide +kernel
theorem dX5_change_55 : decode cX5_change 55 = .ok (.iload_n 2, 1) := by decide +kernel
theorem dX5_change_56 : decode cX5_change 56 = .ok (.aaload, 1) := by decide +kernel
theorem dX5_change_57 : decode cX5_change 57 = .ok (.iload_n 1, 1) := by decide +kernel
theorem dX5_change_58 : decode cX5_change 58 = .ok (.iaload, 1) := by decide +kernel
theorem dX5_change_59 : decode cX5_change 59 = .ok (.istore 5, 2) := by decide +kernel
theorem dX5_change_61 : decode cX5_change 61 = .ok (.aload_n 0, 1) := by decide +kernel
theorem dX5_change_62 : decode cX5_change 62 = .ok (.getfield 10, 3) := by decide +kernel
theorem dX5_change_65 : decode cX5_change 65 = .ok (.getfield 113, 3) := by decide +kernel
theorem dX5_change_68 : decode cX5_change 68 = .ok (.iload_n 2, 1) := by decide +kernel
theorem dX5_change_69 : decode cX5_change 69 = .ok (.aaload, 1) := by decide +kernel
theorem dX5_change_70 : decode cX5_change 70 = .ok (.iload_n 1, 1) := by decide +kernel
theorem dX5_change_71 : decode cX5_change 71 = .ok (.iload_n 3, 1) := by decide +kernel
theorem dX5_change_72 : decode cX5_change 72 = .ok (.iastore, 1) := by decide +kernel
theorem dX5_change_73 : decode cX5_change 73 = .ok (.iload 5, 2) := by decide +kernel
theorem dX5_change_75 : decode cX5_change 75 = .ok (.ireturn, 1) := by decide +kernel
set_option maxHeartbeats 400000 in
set_option maxRecDepth 20000 in
theorem t_X5_change (l : Launch) (ad : Nat → Nat) (D : va_G) (cs : Nat → ClassId) (h : Nat → Nat) (σ : Nat → Nat → Int32) (pre post : va_W) (n : Nat) (o w v : Int32) (hN : σ 0 0 = nI n) (hn : n ≤ 8) (hR : rgM n (σ 0)) : CTi l yX5_change cX5_change 6 .int ({ frames := 2, cells := 0, slots := 0, locals := 43 }) ad D (tysW cs) (pre ++ (wX cs h σ ++ post)) [.ref (h 0), .int o, .int w, .int v] (gateI (oneB n o && canB w v) (σ 0 (8 + 5 * o.toNatClampNeg + w.toNatClampNeg)) (-1)) (pre ++ (wX cs h (su σ 0 (gateF (oneB n o && canB w v) (upd (σ 0) (8 + 5 * o.toNatClampNeg + w.toNatClampNeg) v) (σ 0))) ++ post)) := by
  refine CTi.of (lv0 := [(0, .ref (h 0)), (1, .int o), (2, .int w), (3, .int v)]) (by decide) rfl (Nat.le_of_ble_eq_true rfl) (fun p e s m args below meth c A C hr hlk => ?_)
  have C : Cx p s m args c cX5_change 6 RX5 ad D (tysW cs) A := C
  refine r_iload_n (pc := 0) C 2 dX5_change_0 rfl rfl ?_
  refine r_iconst (pc := 1) C 1 dX5_change_1 (by decide) ?_
  refine r_icmp_eq (pc := 2) C 15 dX5_change_2 (by decide) (fun c_1 => ?_) (fun c_1 => ?_)
  · skip
    subst c_1
    refine r_iconst (pc := 15) C 1 dX5_change_15 (by decide) ?_
    refine r_goto (pc := 16) C 20 dX5_change_16 (by decide) ?_
    refine r_istore (pc := 20) C [(4, .int 1), (0, .ref (h 0)), (1, .int o), (2, .int 1), (3, .int v)] dX5_change_20 (by decide) rfl ?_
    refine r_aload_n (pc := 22) C 1 dX5_change_22 rfl rfl ?_
    refine xg_now (pc := 23) C fl_RX5_10 dX5_change_23 ?_
    refine r_iload_n (pc := 26) C 2 dX5_change_26 rfl rfl ?_
    refine rc_Vi (pc := 27) C (t_X0_exists' l ad D cs (fun j => h (1 + j)) (fun _ => σ 0) (pre ++ xA_0 cs h σ) (xC_0 cs h σ ++ post) (σ 0) rfl n o hN hn) mv_X0_exists ml_RX5_116 rfl ⟨Nat.le_of_ble_eq_true rfl, Nat.le_of_ble_eq_true rfl⟩ ⟨rfl, rfl⟩ (q0 := 0) rfl rfl rfl fx_0 fx_0.symm rfl (Nat.le_of_ble_eq_true rfl) dX5_change_27 ?_
    refine r_if_eq (pc := 30) C 46 dX5_change_30 (by decide) (fun c_2 => ?_) (fun c_2 => ?_)
    · skip
      have c_2 := bI_0.mp c_2
      refine r_iconst (pc := 46) C (-1) dX5_change_46 (by decide) ?_
      exact r_iret (pc := 47) C hr hlk dX5_change_47 rfl (by first | rfl | (simp [gateI, gateF, canB, *]; done) | simp_all [gateI, gateF, canB]) (by rw [show (gateF (oneB n o && canB (1 : Int32) v) (upd (σ 0) (8 + 5 * o.toNatClampNeg + (1 : Int32).toNatClampNeg) v) (σ 0) : Nat → Int32) = σ 0 from (by first | rfl | (simp [gateI, gateF, canB, *]; done) | simp_all [gateI, gateF, canB])] <;> rfl)
    · skip
      have c_2 := bI_n.mp c_2
      obtain ⟨j, h_j, rfl⟩ := one_nat (by omega) c_2
      have e_j : (nI j).toNatClampNeg = j := nI_clamp (by omega)
      refine r_iload (pc := 33) C 0 dX5_change_33 rfl ?_
      refine r_if_eq (pc := 35) C 46 dX5_change_35 (by decide) (fun c_3 => ?_) (fun c_3 => ?_)
      · skip
        revert c_3; intro c_3
        exact absurd c_3 (by decide)
      · skip
        revert c_3; intro c_3
        refine r_iload_n (pc := 38) C 3 dX5_change_38 rfl rfl ?_
        refine r_iload_n (pc := 39) C 4 dX5_change_39 rfl rfl ?_
        refine rc_Si (pc := 40) C (t_X5_isTrait_1 l ad D (tysW cs) (wX cs h σ) pre post  v ) ms_X5_isTrait ml_RX5_101 rfl ⟨Nat.le_of_ble_eq_true rfl, Nat.le_of_ble_eq_true rfl⟩ ⟨rfl, rfl⟩ rfl rfl rfl (Nat.le_of_ble_eq_true rfl) dX5_change_40 ?_
        refine r_if_ne (pc := 43) C 48 dX5_change_43 (by decide) (fun c_4 => ?_) (fun c_4 => ?_)
        · skip
          have c_4 := bI_n.mp c_4
          refine r_aload_n (pc := 48) C 1 dX5_change_48 rfl rfl ?_
          refine xg_now (pc := 49) C fl_RX5_10 dX5_change_49 ?_
          refine xg_has_0 (pc := 52) C fl_RX5_113 dX5_change_52 ?_
          refine r_iload_n (pc := 55) C 3 dX5_change_55 rfl rfl ?_
          refine xa_has_0 (pc := 56) C 1 (rfl) (by omega) dX5_change_56 ?_
          refine r_iload_n (pc := 57) C 2 dX5_change_57 rfl rfl ?_
          refine xl_row_0 (pc := 58) C 1 (by decide) j (rfl) (by omega) dX5_change_58 (σ 0 (8 + 5 * j + 1)) rfl ?_
          refine r_istore (pc := 59) C [(5, .int (σ 0 (8 + 5 * j + 1))), (4, .int 1), (0, .ref (h 0)), (1, .int (nI j)), (2, .int 1), (3, .int v)] dX5_change_59 (by decide) rfl ?_
          refine r_aload_n (pc := 61) C 2 dX5_change_61 rfl rfl ?_
          refine xg_now (pc := 62) C fl_RX5_10 dX5_change_62 ?_
          refine xg_has_0 (pc := 65) C fl_RX5_113 dX5_change_65 ?_
          refine r_iload_n (pc := 68) C 4 dX5_change_68 rfl rfl ?_
          refine xa_has_0 (pc := 69) C 1 (rfl) (by omega) dX5_change_69 ?_
          refine r_iload_n (pc := 70) C 3 dX5_change_70 rfl rfl ?_
          refine r_iload_n (pc := 71) C 5 dX5_change_71 rfl rfl ?_
          refine xs_row_0 (pc := 72) C 1 (by decide) j (rfl) (by omega) dX5_change_72 (8 + 5 * j + 1) rfl (σ 0) (rfl) ?_
          refine r_iload (pc := 73) C 0 dX5_change_73 rfl ?_
          exact r_iret (pc := 75) C hr hlk dX5_change_75 rfl (by first | rfl | (simp [gateI, gateF, canB, *]; done) | simp_all [gateI, gateF, canB]) (by rw [show (gateF (oneB n (nI j) && canB (1 : Int32) v) (upd (σ 0) (8 + 5 * (nI j).toNatClampNeg + (1 : Int32).toNatClampNeg) v) (σ 0) : Nat → Int32) = upd (σ 0) (8 + 5 * j + 1) v from (by first | rfl | (simp [gateI, gateF, canB, *]; done) | simp_all [gateI, gateF, canB])] <;> rfl)
        · skip
          have c_4 := bI_0.mp c_4
          refine r_iconst (pc := 46) C (-1) dX5_change_46 (by decide) ?_
          exact r_iret (pc := 47) C hr hlk dX5_change_47 rfl (by first | rfl | (simp [gateI, gateF, canB, *]; done) | simp_all [gateI, gateF, canB]) (by rw [show (gateF (oneB n (nI j) && canB (1 : Int32) v) (upd (σ 0) (8 + 5 * (nI j).toNatClampNeg + (1 : Int32).toNatClampNeg) v) (σ 0) : Nat → Int32) = σ 0 from (by first | rfl | (simp [gateI, gateF, canB, *]; done) | simp_all [gateI, gateF, canB])] <;> rfl)
  · skip
    refine r_iload_n (pc := 5) C 2 dX5_change_5 rfl rfl ?_
    refine r_iconst (pc := 6) C 3 dX5_change_6 (by decide) ?_
    refine r_icmp_eq (pc := 7) C 15 dX5_change_7 (by decide) (fun c_5 => ?_) (fun c_5 => ?_)
    · skip
      subst c_5
      refine r_iconst (pc := 15) C 1 dX5_change_15 (by decide) ?_
      refine r_goto (pc := 16) C 20 dX5_change_16 (by decide) ?_
      refine r_istore (pc := 20) C [(4, .int 1), (0, .ref (h 0)), (1, .int o), (2, .int 3), (3, .int v)] dX5_change_20 (by decide) rfl ?_
      refine r_aload_n (pc := 22) C 1 dX5_change_22 rfl rfl ?_
      refine xg_now (pc := 23) C fl_RX5_10 dX5_change_23 ?_
      refine r_iload_n (pc := 26) C 2 dX5_change_26 rfl rfl ?_
      refine rc_Vi (pc := 27) C (t_X0_exists' l ad D cs (fun j => h (1 + j)) (fun _ => σ 0) (pre ++ xA_0 cs h σ) (xC_0 cs h σ ++ post) (σ 0) rfl n o hN hn) mv_X0_exists ml_RX5_116 rfl ⟨Nat.le_of_ble_eq_true rfl, Nat.le_of_ble_eq_true rfl⟩ ⟨rfl, rfl⟩ (q0 := 0) rfl rfl rfl fx_0 fx_0.symm rfl (Nat.le_of_ble_eq_true rfl) dX5_change_27 ?_
      refine r_if_eq (pc := 30) C 46 dX5_change_30 (by decide) (fun c_6 => ?_) (fun c_6 => ?_)
      · skip
        have c_6 := bI_0.mp c_6
        refine r_iconst (pc := 46) C (-1) dX5_change_46 (by decide) ?_
        exact r_iret (pc := 47) C hr hlk dX5_change_47 rfl (by first | rfl | (simp [gateI, gateF, canB, *]; done) | simp_all [gateI, gateF, canB]) (by rw [show (gateF (oneB n o && canB (3 : Int32) v) (upd (σ 0) (8 + 5 * o.toNatClampNeg + (3 : Int32).toNatClampNeg) v) (σ 0) : Nat → Int32) = σ 0 from (by first | rfl | (simp [gateI, gateF, canB, *]; done) | simp_all [gateI, gateF, canB])] <;> rfl)
      · skip
        have c_6 := bI_n.mp c_6
        obtain ⟨j, h_j, rfl⟩ := one_nat (by omega) c_6
        have e_j : (nI j).toNatClampNeg = j := nI_clamp (by omega)
        refine r_iload (pc := 33) C 0 dX5_change_33 rfl ?_
        refine r_if_eq (pc := 35) C 46 dX5_change_35 (by decide) (fun c_7 => ?_) (fun c_7 => ?_)
        · skip
          revert c_7; intro c_7
          exact absurd c_7 (by decide)
        · skip
          revert c_7; intro c_7
          refine r_iload_n (pc := 38) C 3 dX5_change_38 rfl rfl ?_
          refine r_iload_n (pc := 39) C 4 dX5_change_39 rfl rfl ?_
          refine rc_Si (pc := 40) C (t_X5_isTrait_3 l ad D (tysW cs) (wX cs h σ) pre post  v ) ms_X5_isTrait ml_RX5_101 rfl ⟨Nat.le_of_ble_eq_true rfl, Nat.le_of_ble_eq_true rfl⟩ ⟨rfl, rfl⟩ rfl rfl rfl (Nat.le_of_ble_eq_true rfl) dX5_change_40 ?_
          refine r_if_ne (pc := 43) C 48 dX5_change_43 (by decide) (fun c_8 => ?_) (fun c_8 => ?_)
          · skip
            have c_8 := bI_n.mp c_8
            refine r_aload_n (pc := 48) C 1 dX5_change_48 rfl rfl ?_
            refine xg_now (pc := 49) C fl_RX5_10 dX5_change_49 ?_
            refine xg_has_0 (pc := 52) C fl_RX5_113 dX5_change_52 ?_
            refine r_iload_n (pc := 55) C 3 dX5_change_55 rfl rfl ?_
            refine xa_has_0 (pc := 56) C 3 (rfl) (by omega) dX5_change_56 ?_
            refine r_iload_n (pc := 57) C 2 dX5_change_57 rfl rfl ?_
            refine xl_row_0 (pc := 58) C 3 (by decide) j (rfl) (by omega) dX5_change_58 (σ 0 (8 + 5 * j + 3)) rfl ?_
            refine r_istore (pc := 59) C [(5, .int (σ 0 (8 + 5 * j + 3))), (4, .int 1), (0, .ref (h 0)), (1, .int (nI j)), (2, .int 3), (3, .int v)] dX5_change_59 (by decide) rfl ?_
            refine r_aload_n (pc := 61) C 2 dX5_change_61 rfl rfl ?_
            refine xg_now (pc := 62) C fl_RX5_10 dX5_change_62 ?_
            refine xg_has_0 (pc := 65) C fl_RX5_113 dX5_change_65 ?_
            refine r_iload_n (pc := 68) C 4 dX5_change_68 rfl rfl ?_
            refine xa_has_0 (pc := 69) C 3 (rfl) (by omega) dX5_change_69 ?_
            refine r_iload_n (pc := 70) C 3 dX5_change_70 rfl rfl ?_
            refine r_iload_n (pc := 71) C 5 dX5_change_71 rfl rfl ?_
            refine xs_row_0 (pc := 72) C 3 (by decide) j (rfl) (by omega) dX5_change_72 (8 + 5 * j + 3) rfl (σ 0) (rfl) ?_
            refine r_iload (pc := 73) C 0 dX5_change_73 rfl ?_
            exact r_iret (pc := 75) C hr hlk dX5_change_75 rfl (by first | rfl | (simp [gateI, gateF, canB, *]; done) | simp_all [gateI, gateF, canB]) (by rw [show (gateF (oneB n (nI j) && canB (3 : Int32) v) (upd (σ 0) (8 + 5 * (nI j).toNatClampNeg + (3 : Int32).toNatClampNeg) v) (σ 0) : Nat → Int32) = upd (σ 0) (8 + 5 * j + 3) v from (by first | rfl | (simp [gateI, gateF, canB, *]; done) | simp_all [gateI, gateF, canB])] <;> rfl)
          · skip
            have c_8 := bI_0.mp c_8
            refine r_iconst (pc := 46) C (-1) dX5_change_46 (by decide) ?_
            exact r_iret (pc := 47) C hr hlk dX5_change_47 rfl (by first | rfl | (simp [gateI, gateF, canB, *]; done) | simp_all [gateI, gateF, canB]) (by rw [show (gateF (oneB n (nI j) && canB (3 : Int32) v) (upd (σ 0) (8 + 5 * (nI j).toNatClampNeg + (3 : Int32).toNatClampNeg) v) (σ 0) : Nat → Int32) = σ 0 from (by first | rfl | (simp [gateI, gateF, canB, *]; done) | simp_all [gateI, gateF, canB])] <;> rfl)
    · skip
      refine r_iload_n (pc := 10) C 2 dX5_change_10 rfl rfl ?_
      refine r_iconst (pc := 11) C 4 dX5_change_11 (by decide) ?_
      refine r_icmp_ne (pc := 12) C 19 dX5_change_12 (by decide) (fun c_9 => ?_) (fun c_9 => ?_)
      · skip
        refine r_iconst (pc := 19) C 0 dX5_change_19 (by decide) ?_
        refine r_istore (pc := 20) C [(4, .int 0), (0, .ref (h 0)), (1, .int o), (2, .int w), (3, .int v)] dX5_change_20 (by decide) rfl ?_
        refine r_aload_n (pc := 22) C 1 dX5_change_22 rfl rfl ?_
        refine xg_now (pc := 23) C fl_RX5_10 dX5_change_23 ?_
        refine r_iload_n (pc := 26) C 2 dX5_change_26 rfl rfl ?_
        refine rc_Vi (pc := 27) C (t_X0_exists' l ad D cs (fun j => h (1 + j)) (fun _ => σ 0) (pre ++ xA_0 cs h σ) (xC_0 cs h σ ++ post) (σ 0) rfl n o hN hn) mv_X0_exists ml_RX5_116 rfl ⟨Nat.le_of_ble_eq_true rfl, Nat.le_of_ble_eq_true rfl⟩ ⟨rfl, rfl⟩ (q0 := 0) rfl rfl rfl fx_0 fx_0.symm rfl (Nat.le_of_ble_eq_true rfl) dX5_change_27 ?_
        refine r_if_eq (pc := 30) C 46 dX5_change_30 (by decide) (fun c_10 => ?_) (fun c_10 => ?_)
        · skip
          have c_10 := bI_0.mp c_10
          refine r_iconst (pc := 46) C (-1) dX5_change_46 (by decide) ?_
          exact r_iret (pc := 47) C hr hlk dX5_change_47 rfl (by first | rfl | (simp [gateI, gateF, canB, *]; done) | simp_all [gateI, gateF, canB]) (by rw [show (gateF (oneB n o && canB w v) (upd (σ 0) (8 + 5 * o.toNatClampNeg + w.toNatClampNeg) v) (σ 0) : Nat → Int32) = σ 0 from (by first | rfl | (simp [gateI, gateF, canB, *]; done) | simp_all [gateI, gateF, canB])] <;> rfl)
        · skip
          have c_10 := bI_n.mp c_10
          obtain ⟨j, h_j, rfl⟩ := one_nat (by omega) c_10
          have e_j : (nI j).toNatClampNeg = j := nI_clamp (by omega)
          refine r_iload (pc := 33) C 0 dX5_change_33 rfl ?_
          refine r_if_eq (pc := 35) C 46 dX5_change_35 (by decide) (fun c_11 => ?_) (fun c_11 => ?_)
          · skip
            revert c_11; intro c_11
            refine r_iconst (pc := 46) C (-1) dX5_change_46 (by decide) ?_
            exact r_iret (pc := 47) C hr hlk dX5_change_47 rfl (by first | rfl | (simp [gateI, gateF, canB, *]; done) | simp_all [gateI, gateF, canB]) (by rw [show (gateF (oneB n (nI j) && canB w v) (upd (σ 0) (8 + 5 * (nI j).toNatClampNeg + w.toNatClampNeg) v) (σ 0) : Nat → Int32) = σ 0 from (by first | rfl | (simp [gateI, gateF, canB, *]; done) | simp_all [gateI, gateF, canB])] <;> rfl)
          · skip
            revert c_11; intro c_11
            exact absurd c_11 (by decide)
      · skip
        subst c_9
        refine r_iconst (pc := 15) C 1 dX5_change_15 (by decide) ?_
        refine r_goto (pc := 16) C 20 dX5_change_16 (by decide) ?_
        refine r_istore (pc := 20) C [(4, .int 1), (0, .ref (h 0)), (1, .int o), (2, .int 4), (3, .int v)] dX5_change_20 (by decide) rfl ?_
        refine r_aload_n (pc := 22) C 1 dX5_change_22 rfl rfl ?_
        refine xg_now (pc := 23) C fl_RX5_10 dX5_change_23 ?_
        refine r_iload_n (pc := 26) C 2 dX5_change_26 rfl rfl ?_
        refine rc_Vi (pc := 27) C (t_X0_exists' l ad D cs (fun j => h (1 + j)) (fun _ => σ 0) (pre ++ xA_0 cs h σ) (xC_0 cs h σ ++ post) (σ 0) rfl n o hN hn) mv_X0_exists ml_RX5_116 rfl ⟨Nat.le_of_ble_eq_true rfl, Nat.le_of_ble_eq_true rfl⟩ ⟨rfl, rfl⟩ (q0 := 0) rfl rfl rfl fx_0 fx_0.symm rfl (Nat.le_of_ble_eq_true rfl) dX5_change_27 ?_
        refine r_if_eq (pc := 30) C 46 dX5_change_30 (by decide) (fun c_12 => ?_) (fun c_12 => ?_)
        · skip
          have c_12 := bI_0.mp c_12
          refine r_iconst (pc := 46) C (-1) dX5_change_46 (by decide) ?_
          exact r_iret (pc := 47) C hr hlk dX5_change_47 rfl (by first | rfl | (simp [gateI, gateF, canB, *]; done) | simp_all [gateI, gateF, canB]) (by rw [show (gateF (oneB n o && canB (4 : Int32) v) (upd (σ 0) (8 + 5 * o.toNatClampNeg + (4 : Int32).toNatClampNeg) v) (σ 0) : Nat → Int32) = σ 0 from (by first | rfl | (simp [gateI, gateF, canB, *]; done) | simp_all [gateI, gateF, canB])] <;> rfl)
        · skip
          have c_12 := bI_n.mp c_12
          obtain ⟨j, h_j, rfl⟩ := one_nat (by omega) c_12
          have e_j : (nI j).toNatClampNeg = j := nI_clamp (by omega)
          refine r_iload (pc := 33) C 0 dX5_change_33 rfl ?_
          refine r_if_eq (pc := 35) C 46 dX5_change_35 (by decide) (fun c_13 => ?_) (fun c_13 => ?_)
          · skip
            revert c_13; intro c_13
            exact absurd c_13 (by decide)
          · skip
            revert c_13; intro c_13
            refine r_iload_n (pc := 38) C 3 dX5_change_38 rfl rfl ?_
            refine r_iload_n (pc := 39) C 4 dX5_change_39 rfl rfl ?_
            refine rc_Si (pc := 40) C (t_X5_isTrait_4 l ad D (tysW cs) (wX cs h σ) pre post  v ) ms_X5_isTrait ml_RX5_101 rfl ⟨Nat.le_of_ble_eq_true rfl, Nat.le_of_ble_eq_true rfl⟩ ⟨rfl, rfl⟩ rfl rfl rfl (Nat.le_of_ble_eq_true rfl) dX5_change_40 ?_
            refine r_if_ne (pc := 43) C 48 dX5_change_43 (by decide) (fun c_14 => ?_) (fun c_14 => ?_)
            · skip
              have c_14 := bI_n.mp c_14
              refine r_aload_n (pc := 48) C 1 dX5_change_48 rfl rfl ?_
              refine xg_now (pc := 49) C fl_RX5_10 dX5_change_49 ?_
              refine xg_has_0 (pc := 52) C fl_RX5_113 dX5_change_52 ?_
              refine r_iload_n (pc := 55) C 3 dX5_change_55 rfl rfl ?_
              refine xa_has_0 (pc := 56) C 4 (rfl) (by omega) dX5_change_56 ?_
              refine r_iload_n (pc := 57) C 2 dX5_change_57 rfl rfl ?_
              refine xl_row_0 (pc := 58) C 4 (by decide) j (rfl) (by omega) dX5_change_58 (σ 0 (8 + 5 * j + 4)) rfl ?_
              refine r_istore (pc := 59) C [(5, .int (σ 0 (8 + 5 * j + 4))), (4, .int 1), (0, .ref (h 0)), (1, .int (nI j)), (2, .int 4), (3, .int v)] dX5_change_59 (by decide) rfl ?_
              refine r_aload_n (pc := 61) C 2 dX5_change_61 rfl rfl ?_
              refine xg_now (pc := 62) C fl_RX5_10 dX5_change_62 ?_
              refine xg_has_0 (pc := 65) C fl_RX5_113 dX5_change_65 ?_
              refine r_iload_n (pc := 68) C 4 dX5_change_68 rfl rfl ?_
              refine xa_has_0 (pc := 69) C 4 (rfl) (by omega) dX5_change_69 ?_
              refine r_iload_n (pc := 70) C 3 dX5_change_70 rfl rfl ?_
              refine r_iload_n (pc := 71) C 5 dX5_change_71 rfl rfl ?_
              refine xs_row_0 (pc := 72) C 4 (by decide) j (rfl) (by omega) dX5_change_72 (8 + 5 * j + 4) rfl (σ 0) (rfl) ?_
              refine r_iload (pc := 73) C 0 dX5_change_73 rfl ?_
              exact r_iret (pc := 75) C hr hlk dX5_change_75 rfl (by first | rfl | (simp [gateI, gateF, canB, *]; done) | simp_all [gateI, gateF, canB]) (by rw [show (gateF (oneB n (nI j) && canB (4 : Int32) v) (upd (σ 0) (8 + 5 * (nI j).toNatClampNeg + (4 : Int32).toNatClampNeg) v) (σ 0) : Nat → Int32) = upd (σ 0) (8 + 5 * j + 4) v from (by first | rfl | (simp [gateI, gateF, canB, *]; done) | simp_all [gateI, gateF, canB])] <;> rfl)
            · skip
              have c_14 := bI_0.mp c_14
              refine r_iconst (pc := 46) C (-1) dX5_change_46 (by decide) ?_
              exact r_iret (pc := 47) C hr hlk dX5_change_47 rfl (by first | rfl | (simp [gateI, gateF, canB, *]; done) | simp_all [gateI, gateF, canB]) (by rw [show (gateF (oneB n (nI j) && canB (4 : Int32) v) (upd (σ 0) (8 + 5 * (nI j).toNatClampNeg + (4 : Int32).toNatClampNeg) v) (σ 0) : Nat → Int32) = σ 0 from (by first | rfl | (simp [gateI, gateF, canB, *]; done) | simp_all [gateI, gateF, canB])] <;> rfl)
theorem t_X5_change' (l : Launch) (ad : Nat → Nat) (D : va_G) (cs : Nat → ClassId) (h : Nat → Nat) (σ : Nat → Nat → Int32) (pre post : va_W) (f0_ : Nat → Int32) (e0_ : σ 0 = f0_) (n : Nat) (o w v : Int32) (hN : f0_ 0 = nI n) (hn : n ≤ 8) (hR : rgM n f0_) : CTi l yX5_change cX5_change 6 .int ({ frames := 2, cells := 0, slots := 0, locals := 43 }) ad D (tysW cs) (pre ++ (wX cs h σ ++ post)) [.ref (h 0), .int o, .int w, .int v] (gateI (oneB n o && canB w v) (f0_ (8 + 5 * o.toNatClampNeg + w.toNatClampNeg)) (-1)) (pre ++ (wX cs h (su σ 0 (gateF (oneB n o && canB w v) (upd f0_ (8 + 5 * o.toNatClampNeg + w.toNatClampNeg) v) f0_)) ++ post)) := by
  subst e0_
  exact t_X5_change l ad D cs h σ pre post n o w v hN hn hR
theorem dX5_trade_0 : decode cX5_trade 0 = .ok (.aload_n 0, 1) := by decide +kernel
theorem dX5_trade_1 : decode cX5_trade 1 = .ok (.getfield 10, 3) := by decide +kernel
theorem dX5_trade_4 : decode cX5_trade 4 = .ok (.iload_n 1, 1) := by decide +kernel
theorem dX5_trade_5 : decode cX5_trade 5 = .ok (.iload_n 2, 1) := by decide +kernel
theorem dX5_trade_6 : decode cX5_trade 6 = .ok (.invokevirtual 128, 3) := by decide +kernel
theorem dX5_trade_9 : decode cX5_trade 9 = .ok (.ifCond .ne 5, 3) := by decide +kernel
theorem dX5_trade_12 : decode cX5_trade 12 = .ok (.iconst (-1), 1) := by decide +kernel
theorem dX5_trade_13 : decode cX5_trade 13 = .ok (.ireturn, 1) := by decide +kernel
theorem dX5_trade_14 : decode cX5_trade 14 = .ok (.aload_n 0, 1) := by decide +kernel
theorem dX5_trade_15 : decode cX5_trade 15 = .ok (.getfield 10, 3) := by decide +kernel
theorem dX5_trade_18 : decode cX5_trade 18 = .ok (.iload_n 1, 1) := by decide +kernel
theorem dX5_trade_19 : decode cX5_trade 19 = .ok (.iload_n 2, 1) := by decide +kernel
theorem dX5_trade_20 : decode cX5_trade 20 = .ok (.invokevirtual 138, 3) := by decide +kernel
theorem dX5_trade_23 : decode cX5_trade 23 = .ok (.iconst 1, 1) := by decide +kernel
theorem dX5_trade_24 : decode cX5_trade 24 = .ok (.ireturn, 1) := by decide +kernel
set_option maxHeartbeats 400000 in
set_option maxRecDepth 20000 in
theorem t_X5_trade (l : Launch) (ad : Nat → Nat) (D : va_G) (cs : Nat → ClassId) (h : Nat → Nat) (σ : Nat → Nat → Int32) (pre post : va_W) (n : Nat) (o q : Int32) (hN : σ 0 0 = nI n) (hn : n ≤ 8) (hR : rgM n (σ 0)) : CTi l yX5_trade cX5_trade 3 .int ({ frames := 3, cells := 0, slots := 0, locals := 65 }) ad D (tysW cs) (pre ++ (wX cs h σ ++ post)) [.ref (h 0), .int o, .int q] (gateI (twoB n o q) 1 (-1)) (pre ++ (wX cs h (su σ 0 (gateF (twoB n o q) (chgF (σ 0) o.toNatClampNeg q.toNatClampNeg 5) (σ 0))) ++ post)) := by
  refine CTi.of (lv0 := [(0, .ref (h 0)), (1, .int o), (2, .int q)]) (by decide) rfl (Nat.le_of_ble_eq_true rfl) (fun p e s m args below meth c A C hr hlk => ?_)
  have C : Cx p s m args c cX5_trade 3 RX5 ad D (tysW cs) A := C
  refine r_aload_n (pc := 0) C 0 dX5_trade_0 rfl rfl ?_
  refine xg_now (pc := 1) C fl_RX5_10 dX5_trade_1 ?_
  refine r_iload_n (pc := 4) C 1 dX5_trade_4 rfl rfl ?_
  refine r_iload_n (pc := 5) C 2 dX5_trade_5 rfl rfl ?_
  refine rc_Vi (pc := 6) C (t_X0_areTwo' l ad D cs (fun j => h (1 + j)) (fun _ => σ 0) (pre ++ xA_0 cs h σ) (xC_0 cs h σ ++ post) (σ 0) rfl n o q hN hn) mv_X0_areTwo ml_RX5_128 rfl ⟨Nat.le_of_ble_eq_true rfl, Nat.le_of_ble_eq_true rfl⟩ ⟨rfl, rfl⟩ (q0 := 0) rfl rfl rfl fx_0 fx_0.symm rfl (Nat.le_of_ble_eq_true rfl) dX5_trade_6 ?_
  refine r_if_ne (pc := 9) C 14 dX5_trade_9 (by decide) (fun c_1 => ?_) (fun c_1 => ?_)
  · skip
    have c_1 := bI_n.mp c_1
    obtain ⟨a_2, b_2, d_2⟩ := two_of c_1
    obtain ⟨j, h_j, rfl⟩ := one_nat (by omega) a_2
    have e_j : (nI j).toNatClampNeg = j := nI_clamp (by omega)
    obtain ⟨i, h_i, rfl⟩ := one_nat (by omega) b_2
    have e_i : (nI i).toNatClampNeg = i := nI_clamp (by omega)
    refine r_aload_n (pc := 14) C 0 dX5_trade_14 rfl rfl ?_
    refine xg_now (pc := 15) C fl_RX5_10 dX5_trade_15 ?_
    refine r_iload_n (pc := 18) C 1 dX5_trade_18 rfl rfl ?_
    refine r_iload_n (pc := 19) C 2 dX5_trade_19 rfl rfl ?_
    refine rc_Vv (pc := 20) C (t_X0_changePlaces' l ad D cs (fun j => h (1 + j)) (fun _ => σ 0) (pre ++ xA_0 cs h σ) (xC_0 cs h σ ++ post) (σ 0) rfl n j i hN hn h_j h_i (fun q_ => by subst q_; simp_all [twoB])) mv_X0_changePlaces ml_RX5_138 rfl ⟨Nat.le_of_ble_eq_true rfl, Nat.le_of_ble_eq_true rfl⟩ ⟨rfl, rfl⟩ (q0 := 0) rfl rfl rfl fx_0 (bx_0 _) rfl (Nat.le_of_ble_eq_true rfl) dX5_trade_20 ?_
    have f_3 : chgF (σ 0) j i 5 0 = nI n := chgF_0 hN 5
    refine r_iconst (pc := 23) C 1 dX5_trade_23 (by decide) ?_
    exact r_iret (pc := 24) C hr hlk dX5_trade_24 rfl (by first | rfl | (simp [gateI, gateF, *]; done) | simp_all [gateI, gateF]) (by rw [show (gateF (twoB n (nI j) (nI i)) (chgF (σ 0) (nI j).toNatClampNeg (nI i).toNatClampNeg 5) (σ 0) : Nat → Int32) = chgF (σ 0) j i 5 from (by first | rfl | (simp [gateI, gateF, *]; done) | simp_all [gateI, gateF])] <;> rfl)
  · skip
    have c_1 := bI_0.mp c_1
    refine r_iconst (pc := 12) C (-1) dX5_trade_12 (by decide) ?_
    exact r_iret (pc := 13) C hr hlk dX5_trade_13 rfl (by first | rfl | (simp [gateI, gateF, *]; done) | simp_all [gateI, gateF]) (by rw [show (gateF (twoB n o q) (chgF (σ 0) o.toNatClampNeg q.toNatClampNeg 5) (σ 0) : Nat → Int32) = σ 0 from (by first | rfl | (simp [gateI, gateF, *]; done) | simp_all [gateI, gateF])] <;> rfl)
theorem t_X5_trade' (l : Launch) (ad : Nat → Nat) (D : va_G) (cs : Nat → ClassId) (h : Nat → Nat) (σ : Nat → Nat → Int32) (pre post : va_W) (f0_ : Nat → Int32) (e0_ : σ 0 = f0_) (n : Nat) (o q : Int32) (hN : f0_ 0 = nI n) (hn : n ≤ 8) (hR : rgM n f0_) : CTi l yX5_trade cX5_trade 3 .int ({ frames := 3, cells := 0, slots := 0, locals := 65 }) ad D (tysW cs) (pre ++ (wX cs h σ ++ post)) [.ref (h 0), .int o, .int q] (gateI (twoB n o q) 1 (-1)) (pre ++ (wX cs h (su σ 0 (gateF (twoB n o q) (chgF f0_ o.toNatClampNeg q.toNatClampNeg 5) f0_)) ++ post)) := by
  subst e0_
  exact t_X5_trade l ad D cs h σ pre post n o q hN hn hR
theorem dX5_days_0 : decode cX5_days 0 = .ok (.iload_n 1, 1) := by decide +kernel
theorem dX5_days_1 : decode cX5_days 1 = .ok (.iconst 1, 1) := by decide +kernel
theorem dX5_days_2 : decode cX5_days 2 = .ok (.bipush 60, 2) := by decide +kernel
theorem dX5_days_4 : decode cX5_days 4 = .ok (.invokestatic 59, 3) := by decide +kernel
theorem dX5_days_7 : decode cX5_days 7 = .ok (.ifCond .ne 5, 3) := by decide +kernel
theorem dX5_days_10 : decode cX5_days 10 = .ok (.iconst (-1), 1) := by decide +kernel
theorem dX5_days_11 : decode cX5_days 11 = .ok (.ireturn, 1) := by decide +kernel
theorem dX5_days_12 : decode cX5_days 12 = .ok (.aload_n 0, 1) := by decide +kernel
theorem dX5_days_13 : decode cX5_days 13 = .ok (.getfield 10, 3) := by decide +kernel
theorem dX5_days_16 : decode cX5_days 16 = .ok (.iload_n 1, 1) := by decide +kernel
theorem dX5_days_17 : decode cX5_days 17 = .ok (.invokevirtual 142, 3) := by decide +kernel
theorem dX5_days_20 : decode cX5_days 20 = .ok (.aload_n 0, 1) := by decide +kernel
theorem dX5_days_21 : decode cX5_days 21 = .ok (.getfield 10, 3) := by decide +kernel
theorem dX5_days_24 : decode cX5_days 24 = .ok (.iconst 4, 1) := by decide +kernel
theorem dX5_days_25 : decode cX5_days 25 = .ok (.invokevirtual 146, 3) := by decide +kernel
theorem dX5_days_28 : decode cX5_days 28 = .ok (.ireturn, 1) := by decide +kernel
set_option maxHeartbeats 400000 in
set_option maxRecDepth 20000 in
theorem t_X5_days (l : Launch) (ad : Nat → Nat) (D : va_G) (cs : Nat → ClassId) (h : Nat → Nat) (σ : Nat → Nat → Int32) (pre post : va_W) (n : Nat) (k : Int32) (hN : σ 0 0 = nI n) (hn : n ≤ 8) (hR : rgM n (σ 0)) : CTi l yX5_days cX5_days 2 .int ({ frames := 5, cells := 0, slots := 0, locals := 114 }) ad D (tysW cs) (pre ++ (wX cs h σ ++ post)) [.ref (h 0), .int k] (gateI (inB k 1 60) (sumF (daysF n (σ 0) k.toNatClampNeg) 4 n) (-1)) (pre ++ (wX cs h (su σ 0 (gateF (inB k 1 60) (daysF n (σ 0) k.toNatClampNeg) (σ 0))) ++ post)) := by
  refine CTi.of (lv0 := [(0, .ref (h 0)), (1, .int k)]) (by decide) rfl (Nat.le_of_ble_eq_true rfl) (fun p e s m args below meth c A C hr hlk => ?_)
  have C : Cx p s m args c cX5_days 2 RX5 ad D (tysW cs) A := C
  refine r_iload_n (pc := 0) C 1 dX5_days_0 rfl rfl ?_
  refine r_iconst (pc := 1) C 1 dX5_days_1 (by decide) ?_
  refine r_bipush (pc := 2) C 60 dX5_days_2 (by decide) ?_
  refine rc_Si (pc := 4) C (t_X5_isWithin l ad D (tysW cs) (wX cs h σ) pre post  k (1 : Int32) (60 : Int32) ) ms_X5_isWithin ml_RX5_59 rfl ⟨Nat.le_of_ble_eq_true rfl, Nat.le_of_ble_eq_true rfl⟩ ⟨rfl, rfl⟩ rfl rfl rfl (Nat.le_of_ble_eq_true rfl) dX5_days_4 ?_
  refine r_if_ne (pc := 7) C 12 dX5_days_7 (by decide) (fun c_1 => ?_) (fun c_1 => ?_)
  · skip
    have c_1 := bI_n.mp c_1
    obtain ⟨t, l_t, h_t, rfl⟩ := rng_nat 1 60 (by decide) (by decide) c_1
    have e_t : (nI t).toNatClampNeg = t := nI_clamp (by omega)
    refine r_aload_n (pc := 12) C 0 dX5_days_12 rfl rfl ?_
    refine xg_now (pc := 13) C fl_RX5_10 dX5_days_13 ?_
    refine r_iload_n (pc := 16) C 1 dX5_days_16 rfl rfl ?_
    refine rc_Vv (pc := 17) C (t_X0_passDays' l ad D cs (fun j => h (1 + j)) (fun _ => σ 0) (pre ++ xA_0 cs h σ) (xC_0 cs h σ ++ post) (σ 0) rfl n t hN hn hR (by omega)) mv_X0_passDays ml_RX5_142 rfl ⟨Nat.le_of_ble_eq_true rfl, Nat.le_of_ble_eq_true rfl⟩ ⟨rfl, rfl⟩ (q0 := 0) rfl rfl rfl fx_0 (bx_0 _) rfl (Nat.le_of_ble_eq_true rfl) dX5_days_17 ?_
    have f_2 : daysF n (σ 0) t 0 = nI n := daysF_0 hN
    refine r_aload_n (pc := 20) C 0 dX5_days_20 rfl rfl ?_
    refine xg_now (pc := 21) C fl_RX5_10 dX5_days_21 ?_
    refine r_iconst (pc := 24) C 4 dX5_days_24 (by decide) ?_
    refine rc_Vi (pc := 25) C (t_X0_sumOf' l ad D cs (fun j => h (1 + j)) (fun _ => daysF n (σ 0) t) (pre ++ xA_0 cs h (su σ 0 (daysF n (σ 0) t))) (xC_0 cs h (su σ 0 (daysF n (σ 0) t)) ++ post) (daysF n (σ 0) t) rfl n 4 f_2 hn (by omega)) mv_X0_sumOf ml_RX5_146 rfl ⟨Nat.le_of_ble_eq_true rfl, Nat.le_of_ble_eq_true rfl⟩ ⟨rfl, rfl⟩ (q0 := 0) rfl rfl rfl fx_0 fx_0.symm rfl (Nat.le_of_ble_eq_true rfl) dX5_days_25 ?_
    exact r_iret (pc := 28) C hr hlk dX5_days_28 rfl (by first | rfl | (simp [gateI, gateF, *]; done) | simp_all [gateI, gateF]) (by rw [show (gateF (inB (nI t) 1 60) (daysF n (σ 0) (nI t).toNatClampNeg) (σ 0) : Nat → Int32) = daysF n (σ 0) t from (by first | rfl | (simp [gateI, gateF, *]; done) | simp_all [gateI, gateF])] <;> rfl)
  · skip
    have c_1 := bI_0.mp c_1
    refine r_iconst (pc := 10) C (-1) dX5_days_10 (by decide) ?_
    exact r_iret (pc := 11) C hr hlk dX5_days_11 rfl (by first | rfl | (simp [gateI, gateF, *]; done) | simp_all [gateI, gateF]) (by rw [show (gateF (inB k 1 60) (daysF n (σ 0) k.toNatClampNeg) (σ 0) : Nat → Int32) = σ 0 from (by first | rfl | (simp [gateI, gateF, *]; done) | simp_all [gateI, gateF])] <;> rfl)
theorem t_X5_days' (l : Launch) (ad : Nat → Nat) (D : va_G) (cs : Nat → ClassId) (h : Nat → Nat) (σ : Nat → Nat → Int32) (pre post : va_W) (f0_ : Nat → Int32) (e0_ : σ 0 = f0_) (n : Nat) (k : Int32) (hN : f0_ 0 = nI n) (hn : n ≤ 8) (hR : rgM n f0_) : CTi l yX5_days cX5_days 2 .int ({ frames := 5, cells := 0, slots := 0, locals := 114 }) ad D (tysW cs) (pre ++ (wX cs h σ ++ post)) [.ref (h 0), .int k] (gateI (inB k 1 60) (sumF (daysF n f0_ k.toNatClampNeg) 4 n) (-1)) (pre ++ (wX cs h (su σ 0 (gateF (inB k 1 60) (daysF n f0_ k.toNatClampNeg) f0_)) ++ post)) := by
  subst e0_
  exact t_X5_days l ad D cs h σ pre post n k hN hn hR
theorem dX5_seed_0 : decode cX5_seed 0 = .ok (.aload_n 0, 1) := by decide +kernel
theorem dX5_seed_1 : decode cX5_seed 1 = .ok (.getfield 10, 3) := by decide +kernel
theorem dX5_seed_4 : decode cX5_seed 4 = .ok (.getfield 75, 3) := by decide +kernel
theorem dX5_seed_7 : decode cX5_seed 7 = .ok (.istore_n 2, 1) := by decide +kernel
theorem dX5_seed_8 : decode cX5_seed 8 = .ok (.aload_n 0, 1) := by decide +kernel
theorem dX5_seed_9 : decode cX5_seed 9 = .ok (.getfield 10, 3) := by decide +kernel
theorem dX5_seed_12 : decode cX5_seed 12 = .ok (.iload_n 1, 1) := by decide +kernel
theorem dX5_seed_13 : decode cX5_seed 13 = .ok (.putfield 75, 3) := by decide +kernel
theorem dX5_seed_16 : decode cX5_seed 16 = .ok (.iload_n 2, 1) := by decide +kernel
theorem dX5_seed_17 : decode cX5_seed 17 = .ok (.ireturn, 1) := by decide +kernel
set_option maxHeartbeats 400000 in
set_option maxRecDepth 20000 in
theorem t_X5_seed (l : Launch) (ad : Nat → Nat) (D : va_G) (cs : Nat → ClassId) (h : Nat → Nat) (σ : Nat → Nat → Int32) (pre post : va_W) (v : Int32)  : CTi l yX5_seed cX5_seed 3 .int ({ frames := 0, cells := 0, slots := 0, locals := 0 }) ad D (tysW cs) (pre ++ (wX cs h σ ++ post)) [.ref (h 0), .int v] (σ 0 2) (pre ++ (wX cs h (su σ 0 (upd (σ 0) 2 v)) ++ post)) := by
  refine CTi.of (lv0 := [(0, .ref (h 0)), (1, .int v)]) (by decide) rfl (Nat.le_of_ble_eq_true rfl) (fun p e s m args below meth c A C hr hlk => ?_)
  have C : Cx p s m args c cX5_seed 3 RX5 ad D (tysW cs) A := C
  refine r_aload_n (pc := 0) C 0 dX5_seed_0 rfl rfl ?_
  refine xg_now (pc := 1) C fl_RX5_10 dX5_seed_1 ?_
  refine xg_z_0 (pc := 4) C fl_RX5_75 dX5_seed_4 (σ 0 2) rfl ?_
  refine r_istore_n (pc := 7) C [(2, .int (σ 0 2)), (0, .ref (h 0)), (1, .int v)] dX5_seed_7 rfl (by decide) rfl ?_
  refine r_aload_n (pc := 8) C 1 dX5_seed_8 rfl rfl ?_
  refine xg_now (pc := 9) C fl_RX5_10 dX5_seed_9 ?_
  refine r_iload_n (pc := 12) C 2 dX5_seed_12 rfl rfl ?_
  refine xp_z_0 (pc := 13) C fl_RX5_75 dX5_seed_13 (σ 0) (rfl) ?_
  refine r_iload_n (pc := 16) C 0 dX5_seed_16 rfl rfl ?_
  exact r_iret (pc := 17) C hr hlk dX5_seed_17 rfl rfl rfl
theorem t_X5_seed' (l : Launch) (ad : Nat → Nat) (D : va_G) (cs : Nat → ClassId) (h : Nat → Nat) (σ : Nat → Nat → Int32) (pre post : va_W) (f0_ : Nat → Int32) (e0_ : σ 0 = f0_) (v : Int32)  : CTi l yX5_seed cX5_seed 3 .int ({ frames := 0, cells := 0, slots := 0, locals := 0 }) ad D (tysW cs) (pre ++ (wX cs h σ ++ post)) [.ref (h 0), .int v] (f0_ 2) (pre ++ (wX cs h (su σ 0 (upd f0_ 2 v)) ++ post)) := by
  subst e0_
  exact t_X5_seed l ad D cs h σ pre post v 
theorem dX5_day_0 : decode cX5_day 0 = .ok (.aload_n 0, 1) := by decide +kernel
theorem dX5_day_1 : decode cX5_day 1 = .ok (.getfield 10, 3) := by decide +kernel
theorem dX5_day_4 : decode cX5_day 4 = .ok (.invokevirtual 149, 3) := by decide +kernel
theorem dX5_day_7 : decode cX5_day 7 = .ok (.aload_n 0, 1) := by decide +kernel
theorem dX5_day_8 : decode cX5_day 8 = .ok (.getfield 10, 3) := by decide +kernel
theorem dX5_day_11 : decode cX5_day 11 = .ok (.iconst 4, 1) := by decide +kernel
theorem dX5_day_12 : decode cX5_day 12 = .ok (.invokevirtual 146, 3) := by decide +kernel
theorem dX5_day_15 : decode cX5_day 15 = .ok (.ireturn, 1) := by decide +kernel
set_option maxHeartbeats 400000 in
set_option maxRecDepth 20000 in
theorem t_X5_day (l : Launch) (ad : Nat → Nat) (D : va_G) (cs : Nat → ClassId) (h : Nat → Nat) (σ : Nat → Nat → Int32) (pre post : va_W) (n : Nat) (hN : σ 0 0 = nI n) (hn : n ≤ 8) (hR : rgM n (σ 0)) : CTi l yX5_day cX5_day 1 .int ({ frames := 6, cells := 0, slots := 0, locals := 135 }) ad D (tysW cs) (pre ++ (wX cs h σ ++ post)) [.ref (h 0)] (sumF (dayD n (σ 0)) 4 n) (pre ++ (wX cs h (su σ 0 (dayD n (σ 0))) ++ post)) := by
  refine CTi.of (lv0 := [(0, .ref (h 0))]) (by decide) rfl (Nat.le_of_ble_eq_true rfl) (fun p e s m args below meth c A C hr hlk => ?_)
  have C : Cx p s m args c cX5_day 1 RX5 ad D (tysW cs) A := C
  refine r_aload_n (pc := 0) C 0 dX5_day_0 rfl rfl ?_
  refine xg_now (pc := 1) C fl_RX5_10 dX5_day_1 ?_
  refine rc_Vv (pc := 4) C (t_X0_passDayByDraws' l ad D cs (fun j => h (1 + j)) (fun _ => σ 0) (pre ++ xA_0 cs h σ) (xC_0 cs h σ ++ post) (σ 0) rfl n hN hn hR) mv_X0_passDayByDraws ml_RX5_149 rfl ⟨Nat.le_of_ble_eq_true rfl, Nat.le_of_ble_eq_true rfl⟩ ⟨rfl, rfl⟩ (q0 := 0) rfl rfl rfl fx_0 (bx_0 _) rfl (Nat.le_of_ble_eq_true rfl) dX5_day_4 ?_
  have f_1 : dayD n (σ 0) 0 = nI n := dayD_0 hN
  refine r_aload_n (pc := 7) C 0 dX5_day_7 rfl rfl ?_
  refine xg_now (pc := 8) C fl_RX5_10 dX5_day_8 ?_
  refine r_iconst (pc := 11) C 4 dX5_day_11 (by decide) ?_
  refine rc_Vi (pc := 12) C (t_X0_sumOf' l ad D cs (fun j => h (1 + j)) (fun _ => dayD n (σ 0)) (pre ++ xA_0 cs h (su σ 0 (dayD n (σ 0)))) (xC_0 cs h (su σ 0 (dayD n (σ 0))) ++ post) (dayD n (σ 0)) rfl n 4 f_1 hn (by omega)) mv_X0_sumOf ml_RX5_146 rfl ⟨Nat.le_of_ble_eq_true rfl, Nat.le_of_ble_eq_true rfl⟩ ⟨rfl, rfl⟩ (q0 := 0) rfl rfl rfl fx_0 fx_0.symm rfl (Nat.le_of_ble_eq_true rfl) dX5_day_12 ?_
  exact r_iret (pc := 15) C hr hlk dX5_day_15 rfl rfl rfl
theorem t_X5_day' (l : Launch) (ad : Nat → Nat) (D : va_G) (cs : Nat → ClassId) (h : Nat → Nat) (σ : Nat → Nat → Int32) (pre post : va_W) (f0_ : Nat → Int32) (e0_ : σ 0 = f0_) (n : Nat) (hN : f0_ 0 = nI n) (hn : n ≤ 8) (hR : rgM n f0_) : CTi l yX5_day cX5_day 1 .int ({ frames := 6, cells := 0, slots := 0, locals := 135 }) ad D (tysW cs) (pre ++ (wX cs h σ ++ post)) [.ref (h 0)] (sumF (dayD n f0_) 4 n) (pre ++ (wX cs h (su σ 0 (dayD n f0_)) ++ post)) := by
  subst e0_
  exact t_X5_day l ad D cs h σ pre post n hN hn hR
theorem dX5_person_0 : decode cX5_person 0 = .ok (.iconst 0, 1) := by decide +kernel
theorem dX5_person_1 : decode cX5_person 1 = .ok (.iload_n 1, 1) := by decide +kernel
theorem dX5_person_2 : decode cX5_person 2 = .ok (.invokestatic 101, 3) := by decide +kernel
theorem dX5_person_5 : decode cX5_person 5 = .ok (.ifCond .eq 28, 3) := by decide +kernel
theorem dX5_person_8 : decode cX5_person 8 = .ok (.iconst 1, 1) := by decide +kernel
theorem dX5_person_9 : decode cX5_person 9 = .ok (.iload_n 2, 1) := by decide +kernel
theorem dX5_person_10 : decode cX5_person 10 = .ok (.invokestatic 101, 3) := by decide +kernel
theorem dX5_person_13 : decode cX5_person 13 = .ok (.ifCond .eq 20, 3) := by decide +kernel
theorem dX5_person_16 : decode cX5_person 16 = .ok (.iconst 2, 1) := by decide +kernel
theorem dX5_person_17 : decode cX5_person 17 = .ok (.iload_n 3, 1) := by decide +kernel
theorem dX5_person_18 : decode cX5_person 18 = .ok (.invokestatic 101, 3) := by decide +kernel
theorem dX5_person_21 : decode cX5_person 21 = .ok (.ifCond .eq 12, 3) := by decide +kernel
theorem dX5_person_24 : decode cX5_person 24 = .ok (.iconst 3, 1) := by decide +kernel
theorem dX5_person_25 : decode cX5_person 25 = .ok (.iload 4, 2) := by decide +kernel
theorem dX5_person_27 : decode cX5_person 27 = .ok (.invokestatic 101, 3) := by decide +kernel
theorem dX5_person_30 : decode cX5_person 30 = .ok (.ifCond .ne 5, 3) := by decide +kernel
theorem dX5_person_33 : decode cX5_person 33 = .ok (.iconst (-1), 1) := by decide +kernel
theorem dX5_person_34 : decode cX5_person 34 = .ok (.ireturn, 1) := by decide +kernel
theorem dX5_person_35 : decode cX5_person 35 = .ok (.aload_n 0, 1) := by decide +kernel
theorem dX5_person_36 : decode cX5_person 36 = .ok (.getfield 10, 3) := by decide +kernel
theorem dX5_person_39 : decode cX5_person 39 = .ok (.invokevirtual 105, 3) := by decide +kernel
theorem dX5_person_42 : decode cX5_person 42 = .ok (.ifCond .eq 6, 3) := by decide +kernel
theorem dX5_person_45 : decode cX5_person 45 = .ok (.bipush (-2), 2) := by decide +kernel
theorem dX5_person_47 : decode cX5_person 47 = .ok (.ireturn, 1) := by decide +kernel
theorem dX5_person_48 : decode cX5_person 48 = .ok (.aload_n 0, 1) := by decide +kernel
theorem dX5_person_49 : decode cX5_person 49 = .ok (.getfield 10, 3) := by decide +kernel
theorem dX5_person_52 : decode cX5_person 52 = .ok (.iload_n 1, 1) := by decide +kernel
theorem dX5_person_53 : decode cX5_person 53 = .ok (.invokevirtual 109, 3) := by decide +kernel
theorem dX5_person_56 : decode cX5_person 56 = .ok (.istore 5, 2) := by decide +kernel
theorem dX5_person_58 : decode cX5_person 58 = .ok (.aload_n 0, 1) := by decide +kernel
theorem dX5_person_59 : decode cX5_person 59 = .ok (.getfield 10, 3) := by decide +kernel
theorem dX5_person_62 : decode cX5_person 62 = .ok (.getfield 113, 3) := by decide +kernel
theorem dX5_person_65 : decode cX5_person 65 = .ok (.iconst 1, 1) := by decide +kernel
theorem dX5_person_66 : decode cX5_person 66 = .ok (.aaload, 1) := by decide +kernel
theorem dX5_person_67 : decode cX5_person 67 = .ok (.iload 5, 2) := by decide +kernel
theorem dX5_person_69 : decode cX5_person 69 = .ok (.iload_n 2, 1) := by decide +kernel
theorem dX5_person_70 : decode cX5_person 70 = .ok (.iastore, 1) := by decide +kernel
theorem dX5_person_71 : decode cX5_person 71 = .ok (.aload_n 0, 1) := by decide +kernel
theorem dX5_person_72 : decode cX5_person 72 = .ok (.getfield 10, 3) := by decide +kernel
theorem dX5_person_75 : decode cX5_person 75 = .ok (.getfield 113, 3) := by decide +kernel
theorem dX5_person_78 : decode cX5_person 78 = .ok (.iconst 2, 1) := by decide +kernel
theorem dX5_person_79 : decode cX5_person 79 = .ok (.aaload, 1) := by decide +kernel
theorem dX5_person_80 : decode cX5_person 80 = .ok (.iload 5, 2) := by decide +kernel
theorem dX5_person_82 : decode cX5_person 82 = .ok (.iload_n 3, 1) := by decide +kernel
theorem dX5_person_83 : decode cX5_person 83 = .ok (.iastore, 1) := by decide +kernel
theorem dX5_person_84 : decode cX5_person 84 = .ok (.aload_n 0, 1) := by decide +kernel
theorem dX5_person_85 : decode cX5_person 85 = .ok (.getfield 10, 3) := by decide +kernel
theorem dX5_person_88 : decode cX5_person 88 = .ok (.getfield 113, 3) := by decide +kernel
theorem dX5_person_91 : decode cX5_person 91 = .ok (.iconst 3, 1) := by decide +kernel
theorem dX5_person_92 : decode cX5_person 92 = .ok (.aaload, 1) := by decide +kernel
theorem dX5_person_93 : decode cX5_person 93 = .ok (.iload 5, 2) := by decide +kernel
theorem dX5_person_95 : decode cX5_person 95 = .ok (.iload 4, 2) := by decide +kernel
theorem dX5_person_97 : decode cX5_person 97 = .ok (.iastore, 1) := by decide +kernel
theorem dX5_person_98 : decode cX5_person 98 = .ok (.iload 5, 2) := by decide +kernel
theorem dX5_person_100 : decode cX5_person 100 = .ok (.ireturn, 1) := by decide +kernel
set_option maxHeartbeats 400000 in
set_option maxRecDepth 20000 in
theorem t_X5_person (l : Launch) (ad : Nat → Nat) (D : va_G) (cs : Nat → ClassId) (h : Nat → Nat) (σ : Nat → Nat → Int32) (pre post : va_W) (n : Nat) (k t w x : Int32) (hN : σ 0 0 = nI n) (hn : n ≤ 8) (hR : rgM n (σ 0)) : CTi l yX5_person cX5_person 6 .int ({ frames := 2, cells := 0, slots := 0, locals := 43 }) ad D (tysW cs) (pre ++ (wX cs h σ ++ post)) [.ref (h 0), .int k, .int t, .int w, .int x] (gateI (inB k 0 5 && (inB t 0 99 && (inB w 0 99 && inB x 0 99))) (if n = 8 then -2 else nI n) (-1)) (pre ++ (wX cs h (su σ 0 (gateF ((inB k 0 5 && (inB t 0 99 && (inB w 0 99 && inB x 0 99))) && !(decide (n = 8))) (perF n (σ 0) k t w x) (σ 0))) ++ post)) := by
  refine CTi.of (lv0 := [(0, .ref (h 0)), (1, .int k), (2, .int t), (3, .int w), (4, .int x)]) (by decide) rfl (Nat.le_of_ble_eq_true rfl) (fun p e s m args below meth c A C hr hlk => ?_)
  have C : Cx p s m args c cX5_person 6 RX5 ad D (tysW cs) A := C
  refine r_iconst (pc := 0) C 0 dX5_person_0 (by decide) ?_
  refine r_iload_n (pc := 1) C 1 dX5_person_1 rfl rfl ?_
  refine rc_Si (pc := 2) C (t_X5_isTrait_0 l ad D (tysW cs) (wX cs h σ) pre post  k ) ms_X5_isTrait ml_RX5_101 rfl ⟨Nat.le_of_ble_eq_true rfl, Nat.le_of_ble_eq_true rfl⟩ ⟨rfl, rfl⟩ rfl rfl rfl (Nat.le_of_ble_eq_true rfl) dX5_person_2 ?_
  refine r_if_eq (pc := 5) C 33 dX5_person_5 (by decide) (fun c_1 => ?_) (fun c_1 => ?_)
  · skip
    have c_1 := bI_0.mp c_1
    refine r_iconst (pc := 33) C (-1) dX5_person_33 (by decide) ?_
    exact r_iret (pc := 34) C hr hlk dX5_person_34 rfl (by first | rfl | (simp [gateI, gateF, *]; done) | simp_all [gateI, gateF]) (by rw [show (gateF ((inB k 0 5 && (inB t 0 99 && (inB w 0 99 && inB x 0 99))) && !(decide (n = 8))) (perF n (σ 0) k t w x) (σ 0) : Nat → Int32) = σ 0 from (by first | rfl | (simp [gateI, gateF, *]; done) | simp_all [gateI, gateF])] <;> rfl)
  · skip
    have c_1 := bI_n.mp c_1
    refine r_iconst (pc := 8) C 1 dX5_person_8 (by decide) ?_
    refine r_iload_n (pc := 9) C 2 dX5_person_9 rfl rfl ?_
    refine rc_Si (pc := 10) C (t_X5_isTrait_1 l ad D (tysW cs) (wX cs h σ) pre post  t ) ms_X5_isTrait ml_RX5_101 rfl ⟨Nat.le_of_ble_eq_true rfl, Nat.le_of_ble_eq_true rfl⟩ ⟨rfl, rfl⟩ rfl rfl rfl (Nat.le_of_ble_eq_true rfl) dX5_person_10 ?_
    refine r_if_eq (pc := 13) C 33 dX5_person_13 (by decide) (fun c_2 => ?_) (fun c_2 => ?_)
    · skip
      have c_2 := bI_0.mp c_2
      refine r_iconst (pc := 33) C (-1) dX5_person_33 (by decide) ?_
      exact r_iret (pc := 34) C hr hlk dX5_person_34 rfl (by first | rfl | (simp [gateI, gateF, *]; done) | simp_all [gateI, gateF]) (by rw [show (gateF ((inB k 0 5 && (inB t 0 99 && (inB w 0 99 && inB x 0 99))) && !(decide (n = 8))) (perF n (σ 0) k t w x) (σ 0) : Nat → Int32) = σ 0 from (by first | rfl | (simp [gateI, gateF, *]; done) | simp_all [gateI, gateF])] <;> rfl)
    · skip
      have c_2 := bI_n.mp c_2
      refine r_iconst (pc := 16) C 2 dX5_person_16 (by decide) ?_
      refine r_iload_n (pc := 17) C 3 dX5_person_17 rfl rfl ?_
      refine rc_Si (pc := 18) C (t_X5_isTrait_2 l ad D (tysW cs) (wX cs h σ) pre post  w ) ms_X5_isTrait ml_RX5_101 rfl ⟨Nat.le_of_ble_eq_true rfl, Nat.le_of_ble_eq_true rfl⟩ ⟨rfl, rfl⟩ rfl rfl rfl (Nat.le_of_ble_eq_true rfl) dX5_person_18 ?_
      refine r_if_eq (pc := 21) C 33 dX5_person_21 (by decide) (fun c_3 => ?_) (fun c_3 => ?_)
      · skip
        have c_3 := bI_0.mp c_3
        refine r_iconst (pc := 33) C (-1) dX5_person_33 (by decide) ?_
        exact r_iret (pc := 34) C hr hlk dX5_person_34 rfl (by first | rfl | (simp [gateI, gateF, *]; done) | simp_all [gateI, gateF]) (by rw [show (gateF ((inB k 0 5 && (inB t 0 99 && (inB w 0 99 && inB x 0 99))) && !(decide (n = 8))) (perF n (σ 0) k t w x) (σ 0) : Nat → Int32) = σ 0 from (by first | rfl | (simp [gateI, gateF, *]; done) | simp_all [gateI, gateF])] <;> rfl)
      · skip
        have c_3 := bI_n.mp c_3
        refine r_iconst (pc := 24) C 3 dX5_person_24 (by decide) ?_
        refine r_iload (pc := 25) C 4 dX5_person_25 rfl ?_
        refine rc_Si (pc := 27) C (t_X5_isTrait_3 l ad D (tysW cs) (wX cs h σ) pre post  x ) ms_X5_isTrait ml_RX5_101 rfl ⟨Nat.le_of_ble_eq_true rfl, Nat.le_of_ble_eq_true rfl⟩ ⟨rfl, rfl⟩ rfl rfl rfl (Nat.le_of_ble_eq_true rfl) dX5_person_27 ?_
        refine r_if_ne (pc := 30) C 35 dX5_person_30 (by decide) (fun c_4 => ?_) (fun c_4 => ?_)
        · skip
          have c_4 := bI_n.mp c_4
          refine r_aload_n (pc := 35) C 0 dX5_person_35 rfl rfl ?_
          refine xg_now (pc := 36) C fl_RX5_10 dX5_person_36 ?_
          refine rc_Vi (pc := 39) C (t_X0_isFull' l ad D cs (fun j => h (1 + j)) (fun _ => σ 0) (pre ++ xA_0 cs h σ) (xC_0 cs h σ ++ post) (σ 0) rfl n hN hn) mv_X0_isFull ml_RX5_105 rfl ⟨Nat.le_of_ble_eq_true rfl, Nat.le_of_ble_eq_true rfl⟩ ⟨rfl, rfl⟩ (q0 := 0) rfl rfl rfl fx_0 fx_0.symm rfl (Nat.le_of_ble_eq_true rfl) dX5_person_39 ?_
          refine r_if_eq (pc := 42) C 48 dX5_person_42 (by decide) (fun c_5 => ?_) (fun c_5 => ?_)
          · skip
            have c_5 := bI_0.mp c_5
            refine r_aload_n (pc := 48) C 0 dX5_person_48 rfl rfl ?_
            refine xg_now (pc := 49) C fl_RX5_10 dX5_person_49 ?_
            refine r_iload_n (pc := 52) C 1 dX5_person_52 rfl rfl ?_
            refine rc_Vi (pc := 53) C (t_X0_addPerson' l ad D cs (fun j => h (1 + j)) (fun _ => σ 0) (pre ++ xA_0 cs h σ) (xC_0 cs h σ ++ post) (σ 0) rfl n k hN hn (by omega)) mv_X0_addPerson ml_RX5_109 rfl ⟨Nat.le_of_ble_eq_true rfl, Nat.le_of_ble_eq_true rfl⟩ ⟨rfl, rfl⟩ (q0 := 0) rfl rfl rfl fx_0 (bx_0 _) rfl (Nat.le_of_ble_eq_true rfl) dX5_person_53 ?_
            refine r_istore (pc := 56) C [(5, .int (nI n)), (0, .ref (h 0)), (1, .int k), (2, .int t), (3, .int w), (4, .int x)] dX5_person_56 (by decide) rfl ?_
            refine r_aload_n (pc := 58) C 1 dX5_person_58 rfl rfl ?_
            refine xg_now (pc := 59) C fl_RX5_10 dX5_person_59 ?_
            refine xg_has_0 (pc := 62) C fl_RX5_113 dX5_person_62 ?_
            refine r_iconst (pc := 65) C 1 dX5_person_65 (by decide) ?_
            refine xa_has_0 (pc := 66) C 1 (rfl) (by omega) dX5_person_66 ?_
            refine r_iload (pc := 67) C 0 dX5_person_67 rfl ?_
            refine r_iload_n (pc := 69) C 3 dX5_person_69 rfl rfl ?_
            refine xs_row_0 (pc := 70) C 1 (by decide) n (rfl) (by omega) dX5_person_70 (8 + 5 * n + 1) rfl (perC n (σ 0) k) (su_at) ?_
            refine r_blk (blk' := wX cs h (su σ 0 (upd (perC n (σ 0) k) (8 + 5 * n + 1) t))) (congrArg (wX cs h) (by rw [su_su])) ?_
            refine r_aload_n (pc := 71) C 1 dX5_person_71 rfl rfl ?_
            refine xg_now (pc := 72) C fl_RX5_10 dX5_person_72 ?_
            refine xg_has_0 (pc := 75) C fl_RX5_113 dX5_person_75 ?_
            refine r_iconst (pc := 78) C 2 dX5_person_78 (by decide) ?_
            refine xa_has_0 (pc := 79) C 2 (rfl) (by omega) dX5_person_79 ?_
            refine r_iload (pc := 80) C 0 dX5_person_80 rfl ?_
            refine r_iload_n (pc := 82) C 4 dX5_person_82 rfl rfl ?_
            refine xs_row_0 (pc := 83) C 2 (by decide) n (rfl) (by omega) dX5_person_83 (8 + 5 * n + 2) rfl (upd (perC n (σ 0) k) (8 + 5 * n + 1) t) (su_at) ?_
            refine r_blk (blk' := wX cs h (su σ 0 (upd (upd (perC n (σ 0) k) (8 + 5 * n + 1) t) (8 + 5 * n + 2) w))) (congrArg (wX cs h) (by rw [su_su])) ?_
            refine r_aload_n (pc := 84) C 1 dX5_person_84 rfl rfl ?_
            refine xg_now (pc := 85) C fl_RX5_10 dX5_person_85 ?_
            refine xg_has_0 (pc := 88) C fl_RX5_113 dX5_person_88 ?_
            refine r_iconst (pc := 91) C 3 dX5_person_91 (by decide) ?_
            refine xa_has_0 (pc := 92) C 3 (rfl) (by omega) dX5_person_92 ?_
            refine r_iload (pc := 93) C 0 dX5_person_93 rfl ?_
            refine r_iload (pc := 95) C 5 dX5_person_95 rfl ?_
            refine xs_row_0 (pc := 97) C 3 (by decide) n (rfl) (by omega) dX5_person_97 (8 + 5 * n + 3) rfl (upd (upd (perC n (σ 0) k) (8 + 5 * n + 1) t) (8 + 5 * n + 2) w) (su_at) ?_
            refine r_blk (blk' := wX cs h (su σ 0 (upd (upd (upd (perC n (σ 0) k) (8 + 5 * n + 1) t) (8 + 5 * n + 2) w) (8 + 5 * n + 3) x))) (congrArg (wX cs h) (by rw [su_su])) ?_
            refine r_blk (blk' := wX cs h (su σ 0 (perF n (σ 0) k t w x))) (by rw [show (perF n (σ 0) k t w x : Nat → Int32) = upd (upd (upd (perC n (σ 0) k) (8 + 5 * n + 1) t) (8 + 5 * n + 2) w) (8 + 5 * n + 3) x from Eq.symm perK] <;> rfl) ?_
            refine r_iload (pc := 98) C 0 dX5_person_98 rfl ?_
            exact r_iret (pc := 100) C hr hlk dX5_person_100 rfl (by first | rfl | (simp [gateI, gateF, *]; done) | simp_all [gateI, gateF]) (by rw [show (gateF ((inB k 0 5 && (inB t 0 99 && (inB w 0 99 && inB x 0 99))) && !(decide (n = 8))) (perF n (σ 0) k t w x) (σ 0) : Nat → Int32) = perF n (σ 0) k t w x from (by first | rfl | (simp [gateI, gateF, *]; done) | simp_all [gateI, gateF])] <;> rfl)
          · skip
            have c_5 := bI_n.mp c_5
            refine r_bipush (pc := 45) C (-2) dX5_person_45 (by decide) ?_
            exact r_iret (pc := 47) C hr hlk dX5_person_47 rfl (by first | rfl | (simp [gateI, gateF, *]; done) | simp_all [gateI, gateF]) (by rw [show (gateF ((inB k 0 5 && (inB t 0 99 && (inB w 0 99 && inB x 0 99))) && !(decide (n = 8))) (perF n (σ 0) k t w x) (σ 0) : Nat → Int32) = σ 0 from (by first | rfl | (simp [gateI, gateF, *]; done) | simp_all [gateI, gateF])] <;> rfl)
        · skip
          have c_4 := bI_0.mp c_4
          refine r_iconst (pc := 33) C (-1) dX5_person_33 (by decide) ?_
          exact r_iret (pc := 34) C hr hlk dX5_person_34 rfl (by first | rfl | (simp [gateI, gateF, *]; done) | simp_all [gateI, gateF]) (by rw [show (gateF ((inB k 0 5 && (inB t 0 99 && (inB w 0 99 && inB x 0 99))) && !(decide (n = 8))) (perF n (σ 0) k t w x) (σ 0) : Nat → Int32) = σ 0 from (by first | rfl | (simp [gateI, gateF, *]; done) | simp_all [gateI, gateF])] <;> rfl)
theorem t_X5_person' (l : Launch) (ad : Nat → Nat) (D : va_G) (cs : Nat → ClassId) (h : Nat → Nat) (σ : Nat → Nat → Int32) (pre post : va_W) (f0_ : Nat → Int32) (e0_ : σ 0 = f0_) (n : Nat) (k t w x : Int32) (hN : f0_ 0 = nI n) (hn : n ≤ 8) (hR : rgM n f0_) : CTi l yX5_person cX5_person 6 .int ({ frames := 2, cells := 0, slots := 0, locals := 43 }) ad D (tysW cs) (pre ++ (wX cs h σ ++ post)) [.ref (h 0), .int k, .int t, .int w, .int x] (gateI (inB k 0 5 && (inB t 0 99 && (inB w 0 99 && inB x 0 99))) (if n = 8 then -2 else nI n) (-1)) (pre ++ (wX cs h (su σ 0 (gateF ((inB k 0 5 && (inB t 0 99 && (inB w 0 99 && inB x 0 99))) && !(decide (n = 8))) (perF n f0_ k t w x) f0_)) ++ post)) := by
  subst e0_
  exact t_X5_person l ad D cs h σ pre post n k t w x hN hn hR
theorem dX5_purseFromNow_0 : decode cX5_purseFromNow 0 = .ok (.aload_n 0, 1) := by decide +kernel
theorem dX5_purseFromNow_1 : decode cX5_purseFromNow 1 = .ok (.getfield 16, 3) := by decide +kernel
theorem dX5_purseFromNow_4 : decode cX5_purseFromNow 4 = .ok (.aload_n 0, 1) := by decide +kernel
theorem dX5_purseFromNow_5 : decode cX5_purseFromNow 5 = .ok (.getfield 10, 3) := by decide +kernel
theorem dX5_purseFromNow_8 : decode cX5_purseFromNow 8 = .ok (.invokevirtual 81, 3) := by decide +kernel
theorem dX5_purseFromNow_11 : decode cX5_purseFromNow 11 = .ok (.aload_n 0, 1) := by decide +kernel
theorem dX5_purseFromNow_12 : decode cX5_purseFromNow 12 = .ok (.getfield 16, 3) := by decide +kernel
theorem dX5_purseFromNow_15 : decode cX5_purseFromNow 15 = .ok (.iload_n 2, 1) := by decide +kernel
theorem dX5_purseFromNow_16 : decode cX5_purseFromNow 16 = .ok (.invokevirtual 142, 3) := by decide +kernel
theorem dX5_purseFromNow_19 : decode cX5_purseFromNow 19 = .ok (.aload_n 0, 1) := by decide +kernel
theorem dX5_purseFromNow_20 : decode cX5_purseFromNow 20 = .ok (.getfield 16, 3) := by decide +kernel
theorem dX5_purseFromNow_23 : decode cX5_purseFromNow 23 = .ok (.getfield 113, 3) := by decide +kernel
theorem dX5_purseFromNow_26 : decode cX5_purseFromNow 26 = .ok (.iconst 4, 1) := by decide +kernel
theorem dX5_purseFromNow_27 : decode cX5_purseFromNow 27 = .ok (.aaload, 1) := by decide +kernel
theorem dX5_purseFromNow_28 : decode cX5_purseFromNow 28 = .ok (.iload_n 1, 1) := by decide +kernel
theorem dX5_purseFromNow_29 : decode cX5_purseFromNow 29 = .ok (.iaload, 1) := by decide +kernel
theorem dX5_purseFromNow_30 : decode cX5_purseFromNow 30 = .ok (.ireturn, 1) := by decide +kernel
set_option maxHeartbeats 400000 in
set_option maxRecDepth 20000 in
theorem t_X5_purseFromNow (l : Launch) (ad : Nat → Nat) (D : va_G) (cs : Nat → ClassId) (h : Nat → Nat) (σ : Nat → Nat → Int32) (pre post : va_W) (n : Nat) (o k : Nat) (hN : σ 0 0 = nI n) (hn : n ≤ 8) (hR : rgM n (σ 0)) (ho : o < n) (hk : k ≤ 60) : CTi l yX5_purseFromNow cX5_purseFromNow 3 .int ({ frames := 5, cells := 0, slots := 0, locals := 114 }) ad D (tysW cs) (pre ++ (wX cs h σ ++ post)) [.ref (h 0), .int (nI o), .int (nI k)] (purF n (σ 0) o k) (pre ++ (wX cs h (su σ 2 (daysF n (σ 0) k)) ++ post)) := by
  refine CTi.of (lv0 := [(0, .ref (h 0)), (1, .int (nI o)), (2, .int (nI k))]) (by decide) rfl (Nat.le_of_ble_eq_true rfl) (fun p e s m args below meth c A C hr hlk => ?_)
  have C : Cx p s m args c cX5_purseFromNow 3 RX5 ad D (tysW cs) A := C
  refine r_aload_n (pc := 0) C 0 dX5_purseFromNow_0 rfl rfl ?_
  refine xg_tried (pc := 1) C fl_RX5_16 dX5_purseFromNow_1 ?_
  refine r_aload_n (pc := 4) C 0 dX5_purseFromNow_4 rfl rfl ?_
  refine xg_now (pc := 5) C fl_RX5_10 dX5_purseFromNow_5 ?_
  refine rc_Vv (pc := 8) C (t_X0_copyFrom_0_2' l ad D cs h σ pre post (σ 0) (rfl)  ) mv_X0_copyFrom ml_RX5_81 rfl ⟨Nat.le_of_ble_eq_true rfl, Nat.le_of_ble_eq_true rfl⟩ ⟨rfl, rfl⟩ (q0 := 9) rfl rfl rfl rfl rfl rfl (Nat.le_of_ble_eq_true rfl) dX5_purseFromNow_8 ?_
  refine r_aload_n (pc := 11) C 0 dX5_purseFromNow_11 rfl rfl ?_
  refine xg_tried (pc := 12) C fl_RX5_16 dX5_purseFromNow_12 ?_
  refine r_iload_n (pc := 15) C 2 dX5_purseFromNow_15 rfl rfl ?_
  refine rc_Vv (pc := 16) C (t_X0_passDays' l ad D cs (fun j => h (9 + j)) (fun _ => σ 0) (pre ++ xA_2 cs h (su σ 2 (σ 0))) (xC_2 cs h (su σ 2 (σ 0)) ++ post) (σ 0) rfl n k hN hn hR hk) mv_X0_passDays ml_RX5_142 rfl ⟨Nat.le_of_ble_eq_true rfl, Nat.le_of_ble_eq_true rfl⟩ ⟨rfl, rfl⟩ (q0 := 0) rfl rfl rfl fx_2 (bx_2 _) rfl (Nat.le_of_ble_eq_true rfl) dX5_purseFromNow_16 ?_
  refine r_blk (blk' := wX cs h (su σ 2 (daysF n (σ 0) k))) (congrArg (wX cs h) (by rw [su_su (k := 2)])) ?_
  have f_1 : daysF n (σ 0) k 0 = nI n := daysF_0 hN
  refine r_aload_n (pc := 19) C 0 dX5_purseFromNow_19 rfl rfl ?_
  refine xg_tried (pc := 20) C fl_RX5_16 dX5_purseFromNow_20 ?_
  refine xg_has_2 (pc := 23) C fl_RX5_113 dX5_purseFromNow_23 ?_
  refine r_iconst (pc := 26) C 4 dX5_purseFromNow_26 (by decide) ?_
  refine xa_has_2 (pc := 27) C 4 (rfl) (by omega) dX5_purseFromNow_27 ?_
  refine r_iload_n (pc := 28) C 1 dX5_purseFromNow_28 rfl rfl ?_
  refine xl_row_2 (pc := 29) C 4 (by decide) o (rfl) (by omega) dX5_purseFromNow_29 (daysF n (σ 0) k (8 + 5 * o + 4)) (congrFun (su_at) _) ?_
  exact r_iret (pc := 30) C hr hlk dX5_purseFromNow_30 rfl rfl rfl
theorem t_X5_purseFromNow' (l : Launch) (ad : Nat → Nat) (D : va_G) (cs : Nat → ClassId) (h : Nat → Nat) (σ : Nat → Nat → Int32) (pre post : va_W) (f0_ : Nat → Int32) (e0_ : σ 0 = f0_) (n : Nat) (o k : Nat) (hN : f0_ 0 = nI n) (hn : n ≤ 8) (hR : rgM n f0_) (ho : o < n) (hk : k ≤ 60) : CTi l yX5_purseFromNow cX5_purseFromNow 3 .int ({ frames := 5, cells := 0, slots := 0, locals := 114 }) ad D (tysW cs) (pre ++ (wX cs h σ ++ post)) [.ref (h 0), .int (nI o), .int (nI k)] (purF n f0_ o k) (pre ++ (wX cs h (su σ 2 (daysF n f0_ k)) ++ post)) := by
  subst e0_
  exact t_X5_purseFromNow l ad D cs h σ pre post n o k hN hn hR ho hk
theorem dX5_purse_0 : decode cX5_purse 0 = .ok (.aload_n 0, 1) := by decide +kernel
theorem dX5_purse_1 : decode cX5_purse 1 = .ok (.getfield 10, 3) := by decide +kernel
theorem dX5_purse_4 : decode cX5_purse 4 = .ok (.iload_n 1, 1) := by decide +kernel
theorem dX5_purse_5 : decode cX5_purse 5 = .ok (.invokevirtual 116, 3) := by decide +kernel
theorem dX5_purse_8 : decode cX5_purse 8 = .ok (.ifCond .eq 13, 3) := by decide +kernel
theorem dX5_purse_11 : decode cX5_purse 11 = .ok (.iload_n 2, 1) := by decide +kernel
theorem dX5_purse_12 : decode cX5_purse 12 = .ok (.iconst 0, 1) := by decide +kernel
theorem dX5_purse_13 : decode cX5_purse 13 = .ok (.bipush 60, 2) := by decide +kernel
theorem dX5_purse_15 : decode cX5_purse 15 = .ok (.invokestatic 59, 3) := by decide +kernel
theorem dX5_purse_18 : decode cX5_purse 18 = .ok (.ifCond .ne 5, 3) := by decide +kernel
theorem dX5_purse_21 : decode cX5_purse 21 = .ok (.iconst (-1), 1) := by decide +kernel
theorem dX5_purse_22 : decode cX5_purse 22 = .ok (.ireturn, 1) := by decide +kernel
theorem dX5_purse_23 : decode cX5_purse 23 = .ok (.aload_n 0, 1) := by decide +kernel
theorem dX5_purse_24 : decode cX5_purse 24 = .ok (.iload_n 1, 1) := by decide +kernel
theorem dX5_purse_25 : decode cX5_purse 25 = .ok (.iload_n 2, 1) := by decide +kernel
theorem dX5_purse_26 : decode cX5_purse 26 = .ok (.invokevirtual 152, 3) := by decide +kernel
theorem dX5_purse_29 : decode cX5_purse 29 = .ok (.ireturn, 1) := by decide +kernel
set_option maxHeartbeats 400000 in
set_option maxRecDepth 20000 in
theorem t_X5_purse (l : Launch) (ad : Nat → Nat) (D : va_G) (cs : Nat → ClassId) (h : Nat → Nat) (σ : Nat → Nat → Int32) (pre post : va_W) (n : Nat) (o k : Int32) (hN : σ 0 0 = nI n) (hn : n ≤ 8) (hR : rgM n (σ 0)) : CTi l yX5_purse cX5_purse 3 .int ({ frames := 6, cells := 0, slots := 0, locals := 136 }) ad D (tysW cs) (pre ++ (wX cs h σ ++ post)) [.ref (h 0), .int o, .int k] (gateI (oneB n o && inB k 0 60) (purF n (σ 0) o.toNatClampNeg k.toNatClampNeg) (-1)) (pre ++ (wX cs h (su σ 2 (gateF (oneB n o && inB k 0 60) (daysF n (σ 0) k.toNatClampNeg) (σ 2))) ++ post)) := by
  refine CTi.of (lv0 := [(0, .ref (h 0)), (1, .int o), (2, .int k)]) (by decide) rfl (Nat.le_of_ble_eq_true rfl) (fun p e s m args below meth c A C hr hlk => ?_)
  have C : Cx p s m args c cX5_purse 3 RX5 ad D (tysW cs) A := C
  refine r_aload_n (pc := 0) C 0 dX5_purse_0 rfl rfl ?_
  refine xg_now (pc := 1) C fl_RX5_10 dX5_purse_1 ?_
  refine r_iload_n (pc := 4) C 1 dX5_purse_4 rfl rfl ?_
  refine rc_Vi (pc := 5) C (t_X0_exists' l ad D cs (fun j => h (1 + j)) (fun _ => σ 0) (pre ++ xA_0 cs h σ) (xC_0 cs h σ ++ post) (σ 0) rfl n o hN hn) mv_X0_exists ml_RX5_116 rfl ⟨Nat.le_of_ble_eq_true rfl, Nat.le_of_ble_eq_true rfl⟩ ⟨rfl, rfl⟩ (q0 := 0) rfl rfl rfl fx_0 fx_0.symm rfl (Nat.le_of_ble_eq_true rfl) dX5_purse_5 ?_
  refine r_if_eq (pc := 8) C 21 dX5_purse_8 (by decide) (fun c_1 => ?_) (fun c_1 => ?_)
  · skip
    have c_1 := bI_0.mp c_1
    refine r_iconst (pc := 21) C (-1) dX5_purse_21 (by decide) ?_
    exact r_iret (pc := 22) C hr hlk dX5_purse_22 rfl (by first | rfl | (simp [gateI, gateF, *]; done) | simp_all [gateI, gateF]) (by rw [show (gateF (oneB n o && inB k 0 60) (daysF n (σ 0) k.toNatClampNeg) (σ 2) : Nat → Int32) = σ 2 from (by first | rfl | (simp [gateI, gateF, *]; done) | simp_all [gateI, gateF])] <;> rfl)
  · skip
    have c_1 := bI_n.mp c_1
    obtain ⟨j, h_j, rfl⟩ := one_nat (by omega) c_1
    have e_j : (nI j).toNatClampNeg = j := nI_clamp (by omega)
    refine r_iload_n (pc := 11) C 2 dX5_purse_11 rfl rfl ?_
    refine r_iconst (pc := 12) C 0 dX5_purse_12 (by decide) ?_
    refine r_bipush (pc := 13) C 60 dX5_purse_13 (by decide) ?_
    refine rc_Si (pc := 15) C (t_X5_isWithin l ad D (tysW cs) (wX cs h σ) pre post  k (0 : Int32) (60 : Int32) ) ms_X5_isWithin ml_RX5_59 rfl ⟨Nat.le_of_ble_eq_true rfl, Nat.le_of_ble_eq_true rfl⟩ ⟨rfl, rfl⟩ rfl rfl rfl (Nat.le_of_ble_eq_true rfl) dX5_purse_15 ?_
    refine r_if_ne (pc := 18) C 23 dX5_purse_18 (by decide) (fun c_2 => ?_) (fun c_2 => ?_)
    · skip
      have c_2 := bI_n.mp c_2
      obtain ⟨t, l_t, h_t, rfl⟩ := rng_nat 0 60 (by decide) (by decide) c_2
      have e_t : (nI t).toNatClampNeg = t := nI_clamp (by omega)
      refine r_aload_n (pc := 23) C 0 dX5_purse_23 rfl rfl ?_
      refine r_iload_n (pc := 24) C 1 dX5_purse_24 rfl rfl ?_
      refine r_iload_n (pc := 25) C 2 dX5_purse_25 rfl rfl ?_
      refine rc_Vi (pc := 26) C (t_X5_purseFromNow' l ad D cs h σ pre post (σ 0) (rfl) n j t hN hn hR h_j (by omega)) mv_X5_purseFromNow ml_RX5_152 rfl ⟨Nat.le_of_ble_eq_true rfl, Nat.le_of_ble_eq_true rfl⟩ ⟨rfl, rfl⟩ (q0 := 0) rfl rfl rfl rfl rfl rfl (Nat.le_of_ble_eq_true rfl) dX5_purse_26 ?_
      exact r_iret (pc := 29) C hr hlk dX5_purse_29 rfl (by first | rfl | (simp [gateI, gateF, *]; done) | simp_all [gateI, gateF]) (by rw [show (gateF (oneB n (nI j) && inB (nI t) 0 60) (daysF n (σ 0) (nI t).toNatClampNeg) (σ 2) : Nat → Int32) = daysF n (σ 0) t from (by first | rfl | (simp [gateI, gateF, *]; done) | simp_all [gateI, gateF])] <;> rfl)
    · skip
      have c_2 := bI_0.mp c_2
      refine r_iconst (pc := 21) C (-1) dX5_purse_21 (by decide) ?_
      exact r_iret (pc := 22) C hr hlk dX5_purse_22 rfl (by first | rfl | (simp [gateI, gateF, *]; done) | simp_all [gateI, gateF]) (by rw [show (gateF (oneB n (nI j) && inB k 0 60) (daysF n (σ 0) k.toNatClampNeg) (σ 2) : Nat → Int32) = σ 2 from (by first | rfl | (simp [gateI, gateF, *]; done) | simp_all [gateI, gateF])] <;> rfl)
theorem t_X5_purse' (l : Launch) (ad : Nat → Nat) (D : va_G) (cs : Nat → ClassId) (h : Nat → Nat) (σ : Nat → Nat → Int32) (pre post : va_W) (f0_ : Nat → Int32) (e0_ : σ 0 = f0_) (f2_ : Nat → Int32) (e2_ : σ 2 = f2_) (n : Nat) (o k : Int32) (hN : f0_ 0 = nI n) (hn : n ≤ 8) (hR : rgM n f0_) : CTi l yX5_purse cX5_purse 3 .int ({ frames := 6, cells := 0, slots := 0, locals := 136 }) ad D (tysW cs) (pre ++ (wX cs h σ ++ post)) [.ref (h 0), .int o, .int k] (gateI (oneB n o && inB k 0 60) (purF n f0_ o.toNatClampNeg k.toNatClampNeg) (-1)) (pre ++ (wX cs h (su σ 2 (gateF (oneB n o && inB k 0 60) (daysF n f0_ k.toNatClampNeg) (f2_))) ++ post)) := by
  subst e0_; subst e2_
  exact t_X5_purse l ad D cs h σ pre post n o k hN hn hR
theorem dX5_fair_0 : decode cX5_fair 0 = .ok (.aload_n 0, 1) := by decide +kernel
theorem dX5_fair_1 : decode cX5_fair 1 = .ok (.getfield 10, 3) := by decide +kernel
theorem dX5_fair_4 : decode cX5_fair 4 = .ok (.iload_n 1, 1) := by decide +kernel
theorem dX5_fair_5 : decode cX5_fair 5 = .ok (.invokevirtual 116, 3) := by decide +kernel
theorem dX5_fair_8 : decode cX5_fair 8 = .ok (.ifCond .eq 14, 3) := by decide +kernel
theorem dX5_fair_11 : decode cX5_fair 11 = .ok (.aload_n 0, 1) := by decide +kernel
theorem dX5_fair_12 : decode cX5_fair 12 = .ok (.getfield 10, 3) := by decide +kernel
theorem dX5_fair_15 : decode cX5_fair 15 = .ok (.iload_n 1, 1) := by decide +kernel
theorem dX5_fair_16 : decode cX5_fair 16 = .ok (.invokevirtual 184, 3) := by decide +kernel
theorem dX5_fair_19 : decode cX5_fair 19 = .ok (.goto 4, 3) := by decide +kernel
theorem dX5_fair_22 : decode cX5_fair 22 = .ok (.iconst (-1), 1) := by decide +kernel
theorem dX5_fair_23 : decode cX5_fair 23 = .ok (.ireturn, 1) := by decide +kernel
set_option maxHeartbeats 400000 in
set_option maxRecDepth 20000 in
theorem t_X5_fair (l : Launch) (ad : Nat → Nat) (D : va_G) (cs : Nat → ClassId) (h : Nat → Nat) (σ : Nat → Nat → Int32) (pre post : va_W) (n : Nat) (o : Int32) (hN : σ 0 0 = nI n) (hn : n ≤ 8) (hR : rgM n (σ 0)) : CTi l yX5_fair cX5_fair 2 .int ({ frames := 4, cells := 0, slots := 0, locals := 91 }) ad D (tysW cs) (pre ++ (wX cs h σ ++ post)) [.ref (h 0), .int o] (gateI (oneB n o) (fairF (σ 0) o.toNatClampNeg n) (-1)) (pre ++ (wX cs h σ ++ post)) := by
  refine CTi.of (lv0 := [(0, .ref (h 0)), (1, .int o)]) (by decide) rfl (Nat.le_of_ble_eq_true rfl) (fun p e s m args below meth c A C hr hlk => ?_)
  have C : Cx p s m args c cX5_fair 2 RX5 ad D (tysW cs) A := C
  refine r_aload_n (pc := 0) C 0 dX5_fair_0 rfl rfl ?_
  refine xg_now (pc := 1) C fl_RX5_10 dX5_fair_1 ?_
  refine r_iload_n (pc := 4) C 1 dX5_fair_4 rfl rfl ?_
  refine rc_Vi (pc := 5) C (t_X0_exists' l ad D cs (fun j => h (1 + j)) (fun _ => σ 0) (pre ++ xA_0 cs h σ) (xC_0 cs h σ ++ post) (σ 0) rfl n o hN hn) mv_X0_exists ml_RX5_116 rfl ⟨Nat.le_of_ble_eq_true rfl, Nat.le_of_ble_eq_true rfl⟩ ⟨rfl, rfl⟩ (q0 := 0) rfl rfl rfl fx_0 fx_0.symm rfl (Nat.le_of_ble_eq_true rfl) dX5_fair_5 ?_
  refine r_if_eq (pc := 8) C 22 dX5_fair_8 (by decide) (fun c_1 => ?_) (fun c_1 => ?_)
  · skip
    have c_1 := bI_0.mp c_1
    refine r_iconst (pc := 22) C (-1) dX5_fair_22 (by decide) ?_
    exact r_iret (pc := 23) C hr hlk dX5_fair_23 rfl (by first | rfl | (simp [gateI, gateF, *]; done) | simp_all [gateI, gateF]) rfl
  · skip
    have c_1 := bI_n.mp c_1
    obtain ⟨j, h_j, rfl⟩ := one_nat (by omega) c_1
    have e_j : (nI j).toNatClampNeg = j := nI_clamp (by omega)
    refine r_aload_n (pc := 11) C 0 dX5_fair_11 rfl rfl ?_
    refine xg_now (pc := 12) C fl_RX5_10 dX5_fair_12 ?_
    refine r_iload_n (pc := 15) C 1 dX5_fair_15 rfl rfl ?_
    refine rc_Vi (pc := 16) C (t_X0_setFairWith' l ad D cs (fun j => h (1 + j)) (fun _ => σ 0) (pre ++ xA_0 cs h σ) (xC_0 cs h σ ++ post) (σ 0) rfl n j hN hn h_j hR) mv_X0_setFairWith ml_RX5_184 rfl ⟨Nat.le_of_ble_eq_true rfl, Nat.le_of_ble_eq_true rfl⟩ ⟨rfl, rfl⟩ (q0 := 0) rfl rfl rfl fx_0 fx_0.symm rfl (Nat.le_of_ble_eq_true rfl) dX5_fair_16 ?_
    refine r_goto (pc := 19) C 23 dX5_fair_19 (by decide) ?_
    exact r_iret (pc := 23) C hr hlk dX5_fair_23 rfl (by first | rfl | (simp [gateI, gateF, *]; done) | simp_all [gateI, gateF]) rfl
theorem t_X5_fair' (l : Launch) (ad : Nat → Nat) (D : va_G) (cs : Nat → ClassId) (h : Nat → Nat) (σ : Nat → Nat → Int32) (pre post : va_W) (f0_ : Nat → Int32) (e0_ : σ 0 = f0_) (n : Nat) (o : Int32) (hN : f0_ 0 = nI n) (hn : n ≤ 8) (hR : rgM n f0_) : CTi l yX5_fair cX5_fair 2 .int ({ frames := 4, cells := 0, slots := 0, locals := 91 }) ad D (tysW cs) (pre ++ (wX cs h σ ++ post)) [.ref (h 0), .int o] (gateI (oneB n o) (fairF f0_ o.toNatClampNeg n) (-1)) (pre ++ (wX cs h σ ++ post)) := by
  subst e0_
  exact t_X5_fair l ad D cs h σ pre post n o hN hn hR
theorem dX5_keep_0 : decode cX5_keep 0 = .ok (.aload_n 0, 1) := by decide +kernel
theorem dX5_keep_1 : decode cX5_keep 1 = .ok (.getfield 19, 3) := by decide +kernel
theorem dX5_keep_4 : decode cX5_keep 4 = .ok (.aload_n 0, 1) := by decide +kernel
theorem dX5_keep_5 : decode cX5_keep 5 = .ok (.getfield 10, 3) := by decide +kernel
theorem dX5_keep_8 : decode cX5_keep 8 = .ok (.invokevirtual 81, 3) := by decide +kernel
theorem dX5_keep_11 : decode cX5_keep 11 = .ok (.aload_n 0, 1) := by decide +kernel
theorem dX5_keep_12 : decode cX5_keep 12 = .ok (.iconst 1, 1) := by decide +kernel
theorem dX5_keep_13 : decode cX5_keep 13 = .ok (.putfield 298, 3) := by decide +kernel
theorem dX5_keep_16 : decode cX5_keep 16 = .ok (.iconst 1, 1) := by decide +kernel
theorem dX5_keep_17 : decode cX5_keep 17 = .ok (.ireturn, 1) := by decide +kernel
set_option maxHeartbeats 400000 in
set_option maxRecDepth 20000 in
theorem t_X5_keep (l : Launch) (ad : Nat → Nat) (D : va_G) (cs : Nat → ClassId) (h : Nat → Nat) (σ : Nat → Nat → Int32) (pre post : va_W) (n : Nat)  : CTi l yX5_keep cX5_keep 1 .int ({ frames := 2, cells := 0, slots := 0, locals := 71 }) ad D (tysW cs) (pre ++ (wX cs h σ ++ post)) [.ref (h 0)] 1 (pre ++ (wX cs h (su (su σ 1 (σ 0)) 4 (fun _ => 1)) ++ post)) := by
  refine CTi.of (lv0 := [(0, .ref (h 0))]) (by decide) rfl (Nat.le_of_ble_eq_true rfl) (fun p e s m args below meth c A C hr hlk => ?_)
  have C : Cx p s m args c cX5_keep 1 RX5 ad D (tysW cs) A := C
  refine r_aload_n (pc := 0) C 0 dX5_keep_0 rfl rfl ?_
  refine xg_kept (pc := 1) C fl_RX5_19 dX5_keep_1 ?_
  refine r_aload_n (pc := 4) C 0 dX5_keep_4 rfl rfl ?_
  refine xg_now (pc := 5) C fl_RX5_10 dX5_keep_5 ?_
  refine rc_Vv (pc := 8) C (t_X0_copyFrom_0_1' l ad D cs h σ pre post (σ 0) (rfl)  ) mv_X0_copyFrom ml_RX5_81 rfl ⟨Nat.le_of_ble_eq_true rfl, Nat.le_of_ble_eq_true rfl⟩ ⟨rfl, rfl⟩ (q0 := 17) rfl rfl rfl rfl rfl rfl (Nat.le_of_ble_eq_true rfl) dX5_keep_8 ?_
  refine r_aload_n (pc := 11) C 0 dX5_keep_11 rfl rfl ?_
  refine r_iconst (pc := 12) C 1 dX5_keep_12 (by decide) ?_
  refine xp_isKept (pc := 13) C fl_RX5_298 dX5_keep_13 rfl rfl ?_
  refine r_iconst (pc := 16) C 1 dX5_keep_16 (by decide) ?_
  exact r_iret (pc := 17) C hr hlk dX5_keep_17 rfl rfl rfl
theorem t_X5_keep' (l : Launch) (ad : Nat → Nat) (D : va_G) (cs : Nat → ClassId) (h : Nat → Nat) (σ : Nat → Nat → Int32) (pre post : va_W) (f0_ : Nat → Int32) (e0_ : σ 0 = f0_) (n : Nat)  : CTi l yX5_keep cX5_keep 1 .int ({ frames := 2, cells := 0, slots := 0, locals := 71 }) ad D (tysW cs) (pre ++ (wX cs h σ ++ post)) [.ref (h 0)] 1 (pre ++ (wX cs h (su (su σ 1 f0_) 4 (fun _ => 1)) ++ post)) := by
  subst e0_
  exact t_X5_keep l ad D cs h σ pre post n 
theorem dX5_again_0 : decode cX5_again 0 = .ok (.aload_n 0, 1) := by decide +kernel
theorem dX5_again_1 : decode cX5_again 1 = .ok (.getfield 298, 3) := by decide +kernel
theorem dX5_again_4 : decode cX5_again 4 = .ok (.ifCond .ne 6, 3) := by decide +kernel
theorem dX5_again_7 : decode cX5_again 7 = .ok (.bipush (-3), 2) := by decide +kernel
theorem dX5_again_9 : decode cX5_again 9 = .ok (.ireturn, 1) := by decide +kernel
theorem dX5_again_10 : decode cX5_again 10 = .ok (.aload_n 0, 1) := by decide +kernel
theorem dX5_again_11 : decode cX5_again 11 = .ok (.getfield 10, 3) := by decide +kernel
theorem dX5_again_14 : decode cX5_again 14 = .ok (.aload_n 0, 1) := by decide +kernel
theorem dX5_again_15 : decode cX5_again 15 = .ok (.getfield 19, 3) := by decide +kernel
theorem dX5_again_18 : decode cX5_again 18 = .ok (.invokevirtual 81, 3) := by decide +kernel
theorem dX5_again_21 : decode cX5_again 21 = .ok (.aload_n 0, 1) := by decide +kernel
theorem dX5_again_22 : decode cX5_again 22 = .ok (.getfield 10, 3) := by decide +kernel
theorem dX5_again_25 : decode cX5_again 25 = .ok (.getfield 88, 3) := by decide +kernel
theorem dX5_again_28 : decode cX5_again 28 = .ok (.ireturn, 1) := by decide +kernel
set_option maxHeartbeats 400000 in
set_option maxRecDepth 20000 in
theorem t_X5_again (l : Launch) (ad : Nat → Nat) (D : va_G) (cs : Nat → ClassId) (h : Nat → Nat) (σ : Nat → Nat → Int32) (pre post : va_W)   : CTi l yX5_again cX5_again 1 .int ({ frames := 2, cells := 0, slots := 0, locals := 71 }) ad D (tysW cs) (pre ++ (wX cs h σ ++ post)) [.ref (h 0)] (gateI (decide (¬ σ 4 0 = 0)) (σ 1 0) (-3)) (pre ++ (wX cs h (su σ 0 (gateF (decide (¬ σ 4 0 = 0)) (σ 1) (σ 0))) ++ post)) := by
  refine CTi.of (lv0 := [(0, .ref (h 0))]) (by decide) rfl (Nat.le_of_ble_eq_true rfl) (fun p e s m args below meth c A C hr hlk => ?_)
  have C : Cx p s m args c cX5_again 1 RX5 ad D (tysW cs) A := C
  refine r_aload_n (pc := 0) C 0 dX5_again_0 rfl rfl ?_
  refine xg_isKept (pc := 1) C fl_RX5_298 dX5_again_1 (σ 4 0) rfl ?_
  refine r_if_ne (pc := 4) C 10 dX5_again_4 (by decide) (fun c_1 => ?_) (fun c_1 => ?_)
  · skip
    refine r_aload_n (pc := 10) C 0 dX5_again_10 rfl rfl ?_
    refine xg_now (pc := 11) C fl_RX5_10 dX5_again_11 ?_
    refine r_aload_n (pc := 14) C 0 dX5_again_14 rfl rfl ?_
    refine xg_kept (pc := 15) C fl_RX5_19 dX5_again_15 ?_
    refine rc_Vv (pc := 18) C (t_X0_copyFrom_1_0' l ad D cs h σ pre post (σ 1) (rfl)  ) mv_X0_copyFrom ml_RX5_81 rfl ⟨Nat.le_of_ble_eq_true rfl, Nat.le_of_ble_eq_true rfl⟩ ⟨rfl, rfl⟩ (q0 := 1) rfl rfl rfl rfl rfl rfl (Nat.le_of_ble_eq_true rfl) dX5_again_18 ?_
    refine r_aload_n (pc := 21) C 0 dX5_again_21 rfl rfl ?_
    refine xg_now (pc := 22) C fl_RX5_10 dX5_again_22 ?_
    refine xg_count_0 (pc := 25) C fl_RX5_88 dX5_again_25 (σ 1 0) (congrFun (su_at) 0) ?_
    exact r_iret (pc := 28) C hr hlk dX5_again_28 rfl (by first | rfl | (simp [gateI, gateF, *]; done) | simp_all [gateI, gateF]) (by rw [show (gateF (decide (¬ σ 4 0 = 0)) (σ 1) (σ 0) : Nat → Int32) = σ 1 from (by first | rfl | (simp [gateI, gateF, *]; done) | simp_all [gateI, gateF])] <;> rfl)
  · skip
    refine r_bipush (pc := 7) C (-3) dX5_again_7 (by decide) ?_
    exact r_iret (pc := 9) C hr hlk dX5_again_9 rfl (by first | rfl | (simp [gateI, gateF, *]; done) | simp_all [gateI, gateF]) (by rw [show (gateF (decide (¬ σ 4 0 = 0)) (σ 1) (σ 0) : Nat → Int32) = σ 0 from (by first | rfl | (simp [gateI, gateF, *]; done) | simp_all [gateI, gateF])] <;> rfl)
theorem t_X5_again' (l : Launch) (ad : Nat → Nat) (D : va_G) (cs : Nat → ClassId) (h : Nat → Nat) (σ : Nat → Nat → Int32) (pre post : va_W) (f0_ : Nat → Int32) (e0_ : σ 0 = f0_) (f1_ : Nat → Int32) (e1_ : σ 1 = f1_) (f4_ : Nat → Int32) (e4_ : σ 4 = f4_)   : CTi l yX5_again cX5_again 1 .int ({ frames := 2, cells := 0, slots := 0, locals := 71 }) ad D (tysW cs) (pre ++ (wX cs h σ ++ post)) [.ref (h 0)] (gateI (decide (¬ f4_ 0 = 0)) (f1_ 0) (-3)) (pre ++ (wX cs h (su σ 0 (gateF (decide (¬ f4_ 0 = 0)) (f1_) f0_)) ++ post)) := by
  subst e0_; subst e1_; subst e4_
  exact t_X5_again l ad D cs h σ pre post  
