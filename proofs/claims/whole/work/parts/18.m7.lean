theorem dX6_isTold_0 : decode cX6_isTold 0 = .ok (.aload_n 0, 1) := by decide +kernel
theorem dX6_isTold_1 : decode cX6_isTold 1 = .ok (.getfield 7, 3) := by decide +kernel
theorem dX6_isTold_4 : decode cX6_isTold 4 = .ok (.aload_n 0, 1) := by decide +kernel
theorem dX6_isTold_5 : decode cX6_isTold 5 = .ok (.getfield 16, 3) := by decide +kernel
theorem dX6_isTold_8 : decode cX6_isTold 8 = .ok (.invokestatic 134, 3) := by decide +kernel
theorem dX6_isTold_11 : decode cX6_isTold 11 = .ok (.iconst 1, 1) := by decide +kernel
theorem dX6_isTold_12 : decode cX6_isTold 12 = .ok (.istore_n 3, 1) := by decide +kernel
theorem dX6_isTold_13 : decode cX6_isTold 13 = .ok (.iconst 0, 1) := by decide +kernel
theorem dX6_isTold_14 : decode cX6_isTold 14 = .ok (.istore 4, 2) := by decide +kernel
theorem dX6_isTold_16 : decode cX6_isTold 16 = .ok (.iload 4, 2) := by decide +kernel
theorem dX6_isTold_18 : decode cX6_isTold 18 = .ok (.aload_n 0, 1) := by decide +kernel
theorem dX6_isTold_19 : decode cX6_isTold 19 = .ok (.getfield 34, 3) := by decide +kernel
theorem dX6_isTold_22 : decode cX6_isTold 22 = .ok (.iload_n 1, 1) := by decide +kernel
theorem dX6_isTold_23 : decode cX6_isTold 23 = .ok (.iaload, 1) := by decide +kernel
theorem dX6_isTold_24 : decode cX6_isTold 24 = .ok (.if_icmp .ge 60, 3) := by decide +kernel
theorem dX6_isTold_27 : decode cX6_isTold 27 = .ok (.iload_n 3, 1) := by decide +kernel
theorem dX6_isTold_28 : decode cX6_isTold 28 = .ok (.ifCond .eq 56, 3) := by decide +kernel
theorem dX6_isTold_31 : decode cX6_isTold 31 = .ok (.aload_n 0, 1) := by decide +kernel
theorem dX6_isTold_32 : decode cX6_isTold 32 = .ok (.invokevirtual 196, 3) := by decide +kernel
theorem dX6_isTold_35 : decode cX6_isTold 35 = .ok (.aload_n 0, 1) := by decide +kernel
theorem dX6_isTold_36 : decode cX6_isTold 36 = .ok (.getfield 37, 3) := by decide +kernel
theorem dX6_isTold_39 : decode cX6_isTold 39 = .ok (.bipush 40, 2) := by decide +kernel
theorem dX6_isTold_41 : decode cX6_isTold 41 = .ok (.iload_n 1, 1) := by decide +kernel
theorem dX6_isTold_42 : decode cX6_isTold 42 = .ok (.imul, 1) := by decide +kernel
theorem dX6_isTold_43 : decode cX6_isTold 43 = .ok (.iload 4, 2) := by decide +kernel
theorem dX6_isTold_45 : decode cX6_isTold 45 = .ok (.iadd, 1) := by decide +kernel
theorem dX6_isTold_46 : decode cX6_isTold 46 = .ok (.iaload, 1) := by decide +kernel
theorem dX6_isTold_47 : decode cX6_isTold 47 = .ok (.iconst (-1), 1) := by decide +kernel
theorem dX6_isTold_48 : decode cX6_isTold 48 = .ok (.if_icmp .eq 24, 3) := by decide +kernel
theorem dX6_isTold_51 : decode cX6_isTold 51 = .ok (.aload_n 0, 1) := by decide +kernel
theorem dX6_isTold_52 : decode cX6_isTold 52 = .ok (.getfield 37, 3) := by decide +kernel
theorem dX6_isTold_55 : decode cX6_isTold 55 = .ok (.bipush 40, 2) := by decide +kernel
theorem dX6_isTold_57 : decode cX6_isTold 57 = .ok (.iload_n 1, 1) := by decide +kernel
theorem dX6_isTold_58 : decode cX6_isTold 58 = .ok (.imul, 1) := by decide +kernel
theorem dX6_isTold_59 : decode cX6_isTold 59 = .ok (.iload 4, 2) := by decide +kernel
theorem dX6_isTold_61 : decode cX6_isTold 61 = .ok (.iadd, 1) := by decide +kernel
theorem dX6_isTold_62 : decode cX6_isTold 62 = .ok (.iaload, 1) := by decide +kernel
theorem dX6_isTold_63 : decode cX6_isTold 63 = .ok (.aload_n 0, 1) := by decide +kernel
theorem dX6_isTold_64 : decode cX6_isTold 64 = .ok (.iload_n 2, 1) := by decide +kernel
theorem dX6_isTold_65 : decode cX6_isTold 65 = .ok (.iconst 4, 1) := by decide +kernel
theorem dX6_isTold_66 : decode cX6_isTold 66 = .ok (.invokevirtual 156, 3) := by decide +kernel
theorem dX6_isTold_69 : decode cX6_isTold 69 = .ok (.if_icmp .ne 7, 3) := by decide +kernel
theorem dX6_isTold_72 : decode cX6_isTold 72 = .ok (.iconst 1, 1) := by decide +kernel
theorem dX6_isTold_73 : decode cX6_isTold 73 = .ok (.goto 4, 3) := by decide +kernel
theorem dX6_isTold_76 : decode cX6_isTold 76 = .ok (.iconst 0, 1) := by decide +kernel
theorem dX6_isTold_77 : decode cX6_isTold 77 = .ok (.istore_n 3, 1) := by decide +kernel
theorem dX6_isTold_78 : decode cX6_isTold 78 = .ok (.iinc 4 1, 3) := by decide +kernel
theorem dX6_isTold_81 : decode cX6_isTold 81 = .ok (.goto (-65), 3) := by decide +kernel
theorem dX6_isTold_84 : decode cX6_isTold 84 = .ok (.aload_n 0, 1) := by decide +kernel
theorem dX6_isTold_85 : decode cX6_isTold 85 = .ok (.getfield 16, 3) := by decide +kernel
theorem dX6_isTold_88 : decode cX6_isTold 88 = .ok (.aload_n 0, 1) := by decide +kernel
theorem dX6_isTold_89 : decode cX6_isTold 89 = .ok (.getfield 7, 3) := by decide +kernel
theorem dX6_isTold_92 : decode cX6_isTold 92 = .ok (.invokestatic 134, 3) := by decide +kernel
theorem dX6_isTold_95 : decode cX6_isTold 95 = .ok (.iload_n 3, 1) := by decide +kernel
theorem dX6_isTold_96 : decode cX6_isTold 96 = .ok (.ireturn, 1) := by decide +kernel
set_option maxHeartbeats 400000 in
set_option maxRecDepth 20000 in
theorem t_X6_isTold (l : Launch) (ad : Nat → Nat) (D : va_G) (cs : Nat → ClassId) (h : Nat → Nat) (σ : Nat → Nat → Int32) (pre post : va_W) (n g o z : Nat) (hN : σ 0 0 = nI n) (hn : n ≤ 8) (hg : g < 4) (ho : o < n) (hZ : σ 16 g = nI z) (hz0 : z ≤ 40) : CTi l yX6_isTold cX6_isTold 5 .boolean ({ frames := 6, cells := 0, slots := 0, locals := 135 }) ad D (tysW cs) (pre ++ (wM cs h σ ++ post)) [.ref (h 0), .int (nI g), .int (nI o)] (bI (tdB (tdP n (σ 0) (σ 17) o g) 0 z = true)) (pre ++ (wM cs h (su σ 2 (σ 0)) ++ post)) := by
  refine CTi.of (lv0 := [(0, .ref (h 0)), (1, .int (nI g)), (2, .int (nI o))]) (by decide) rfl (Nat.le_of_ble_eq_true rfl) (fun p e s m args below meth c A C hr hlk => ?_)
  have C : Cx p s m args c cX6_isTold 5 RX6 ad D (tysW cs) A := C
  refine r_aload_n (pc := 0) C 0 dX6_isTold_0 rfl rfl ?_
  refine mg_s (pc := 1) C fl_RX6_7 dX6_isTold_1 ?_
  refine r_aload_n (pc := 4) C 0 dX6_isTold_4 rfl rfl ?_
  refine mg_aside (pc := 5) C fl_RX6_16 dX6_isTold_5 ?_
  refine rc_Sv (pc := 8) C (t_X6_copyRow_0_2' l ad D cs h σ pre post (σ 0) (rfl)  ) ms_X6_copyRow ml_RX6_134 rfl ⟨Nat.le_of_ble_eq_true rfl, Nat.le_of_ble_eq_true rfl⟩ ⟨rfl, rfl⟩ rfl rfl rfl (Nat.le_of_ble_eq_true rfl) dX6_isTold_8 ?_
  refine r_iconst (pc := 11) C 1 dX6_isTold_11 (by decide) ?_
  refine r_istore_n (pc := 12) C [(3, .int 1), (0, .ref (h 0)), (1, .int (nI g)), (2, .int (nI o))] dX6_isTold_12 rfl (by decide) rfl ?_
  refine r_iconst (pc := 13) C 0 dX6_isTold_13 (by decide) ?_
  refine r_istore (pc := 14) C [(4, .int 0), (3, .int 1), (0, .ref (h 0)), (1, .int (nI g)), (2, .int (nI o))] dX6_isTold_14 (by decide) rfl ?_
  refine r_pick (lv' := [(0, .ref (h 0)), (1, .int (nI g)), (2, .int (nI o)), (3, .int 1), (4, .int 0)]) [2, 3, 4, 1, 0] rfl ?_
  refine r_blk (blk' := wM cs h (su (su σ 0 (daysF n (σ 0) 0)) 2 (σ 0))) (rfl) ?_
  refine r_loop (blkf := fun i => wM cs h (su (su σ 0 (daysF n (σ 0) i)) 2 (σ 0))) (lvf := fun i => [(0, .ref (h 0)), (1, .int (nI g)), (2, .int (nI o)), (3, .int 1), (4, .int (nI i))]) (fun i => tdB (tdP n (σ 0) (σ 17) o g) 0 z = tdB (tdP n (σ 0) (σ 17) o g) i (z - i)) z 0 (by omega) (rfl) (fun i h_i hx ih => ?_)
  show VX p l e _ s m args below meth c _ D A 5 pre (wM cs h (su (su σ 0 (daysF n (σ 0) i)) 2 (σ 0))) post 16 [(0, .ref (h 0)), (1, .int (nI g)), (2, .int (nI o)), (3, .int 1), (4, .int (nI i))] []
  refine r_iload (pc := 16) C 4 dX6_isTold_16 rfl ?_
  refine r_aload_n (pc := 18) C 0 dX6_isTold_18 rfl rfl ?_
  refine mg_sizeOf (pc := 19) C fl_RX6_34 dX6_isTold_19 ?_
  refine r_iload_n (pc := 22) C 1 dX6_isTold_22 rfl rfl ?_
  refine al_sizeOf (pc := 23) C g (rfl) (by omega) dX6_isTold_23 (σ 16 g) (congrFun (((su_nn (by decide)).trans (su_nn (by decide)))) _) ?_
  refine r_eqi (y := nI z) (hZ) ?_
  refine r_icmp_ge (pc := 24) C 84 dX6_isTold_24 (by decide) (fun c_1 => ?_) (fun c_1 => ?_)
  · skip
    have c_1 := nIc_ge_t (a := i) (b := z) (by omega) (by omega) c_1
    obtain rfl : z = i := by omega
    refine r_aload_n (pc := 84) C 0 dX6_isTold_84 rfl rfl ?_
    refine mg_aside (pc := 85) C fl_RX6_16 dX6_isTold_85 ?_
    refine r_aload_n (pc := 88) C 0 dX6_isTold_88 rfl rfl ?_
    refine mg_s (pc := 89) C fl_RX6_7 dX6_isTold_89 ?_
    refine rc_Sv (pc := 92) C (t_X6_copyRow_2_0' l ad D cs h (su (su σ 0 (daysF n (σ 0) z)) 2 (σ 0)) pre post (σ 0) (su_at)  ) ms_X6_copyRow ml_RX6_134 rfl ⟨Nat.le_of_ble_eq_true rfl, Nat.le_of_ble_eq_true rfl⟩ ⟨rfl, rfl⟩ rfl rfl rfl (Nat.le_of_ble_eq_true rfl) dX6_isTold_92 ?_
    refine r_blk (blk' := wM cs h (su σ 2 (σ 0))) (congrArg (wM cs h) (by rw [su_cm (k := 2) (j := 0) (by decide), su_su (k := 0), su_id (k := 0) (rfl)])) ?_
    refine r_iload_n (pc := 95) C 3 dX6_isTold_95 rfl rfl ?_
    exact r_iret (pc := 96) C hr hlk dX6_isTold_96 rfl (bI_t (by rw [hx]; exact td_end)) rfl
  · skip
    have c_1 := nIc_ge_f (a := i) (b := z) (by omega) (by omega) c_1
    refine r_iload_n (pc := 27) C 3 dX6_isTold_27 rfl rfl ?_
    refine r_if_eq (pc := 28) C 84 dX6_isTold_28 (by decide) (fun c_2 => ?_) (fun c_2 => ?_)
    · skip
      revert c_2; intro c_2
      exact absurd c_2 (by decide)
    · skip
      revert c_2; intro c_2
      refine r_aload_n (pc := 31) C 0 dX6_isTold_31 rfl rfl ?_
      refine rc_Vv (pc := 32) C (t_X6_goesOn' l ad D cs h (su (su σ 0 (daysF n (σ 0) i)) 2 (σ 0)) pre post (daysF n (σ 0) i) ((su_nn (by decide)).trans su_at) n (daysF_0 hN) hn) mv_X6_goesOn ml_RX6_196 rfl ⟨Nat.le_of_ble_eq_true rfl, Nat.le_of_ble_eq_true rfl⟩ ⟨rfl, rfl⟩ (q0 := 0) rfl rfl rfl rfl rfl rfl (Nat.le_of_ble_eq_true rfl) dX6_isTold_32 ?_
      refine r_blk (blk' := wM cs h (su (su σ 0 (dayF n (daysF n (σ 0) i))) 2 (σ 0))) (congrArg (wM cs h) (by rw [su_cm (k := 2) (j := 0) (by decide), su_su (k := 0)])) ?_
      have f_3 : dayF n (daysF n (σ 0) i) 0 = nI n := dayF_0 (daysF_0 hN)
      refine r_aload_n (pc := 35) C 0 dX6_isTold_35 rfl rfl ?_
      refine mg_numbers (pc := 36) C fl_RX6_37 dX6_isTold_36 ?_
      refine r_bipush (pc := 39) C 40 dX6_isTold_39 (by decide) ?_
      refine r_iload_n (pc := 41) C 1 dX6_isTold_41 rfl rfl ?_
      refine r_imul (pc := 42) C dX6_isTold_42 ?_
      refine r_eqi (y := nI (40 * g)) (pk_mul 40 g) ?_
      refine r_iload (pc := 43) C 4 dX6_isTold_43 rfl ?_
      refine r_iadd (pc := 45) C dX6_isTold_45 ?_
      refine r_eqi (y := nI (40 * g + i)) (nI_add (40 * g) i) ?_
      refine al_numbers (pc := 46) C (40 * g + i) (rfl) (by omega) dX6_isTold_46 (σ 17 (40 * g + i)) (congrFun (((su_nn (by decide)).trans (su_nn (by decide)))) _) ?_
      refine r_iconst (pc := 47) C (-1) dX6_isTold_47 (by decide) ?_
      refine r_icmp_eq (pc := 48) C 72 dX6_isTold_48 (by decide) (fun c_4 => ?_) (fun c_4 => ?_)
      · skip
        refine r_iconst (pc := 72) C 1 dX6_isTold_72 (by decide) ?_
        refine r_goto (pc := 73) C 77 dX6_isTold_73 (by decide) ?_
        refine r_istore_n (pc := 77) C [(3, .int 1), (0, .ref (h 0)), (1, .int (nI g)), (2, .int (nI o)), (4, .int (nI i))] dX6_isTold_77 rfl (by decide) rfl ?_
        refine r_iinc (pc := 78) C (nI (i + 1)) 4 [(4, .int (nI (i + 1))), (3, .int 1), (0, .ref (h 0)), (1, .int (nI g)), (2, .int (nI o))] dX6_isTold_78 rfl (nI_1 _) (by decide) rfl ?_
        refine r_goto (pc := 81) C 16 dX6_isTold_81 (by decide) ?_
        refine r_pick (lv' := [(0, .ref (h 0)), (1, .int (nI g)), (2, .int (nI o)), (3, .int 1), (4, .int (nI (i + 1)))]) [2, 3, 4, 1, 0] rfl ?_
        refine r_blk (blk' := wM cs h (su (su σ 0 (daysF n (σ 0) (i + 1))) 2 (σ 0))) (rfl) ?_
        exact ih (by omega) (hx.trans (td_next (by omega) (by simp_all [tdP, daysF])))
      · skip
        refine r_aload_n (pc := 51) C 0 dX6_isTold_51 rfl rfl ?_
        refine mg_numbers (pc := 52) C fl_RX6_37 dX6_isTold_52 ?_
        refine r_bipush (pc := 55) C 40 dX6_isTold_55 (by decide) ?_
        refine r_iload_n (pc := 57) C 1 dX6_isTold_57 rfl rfl ?_
        refine r_imul (pc := 58) C dX6_isTold_58 ?_
        refine r_eqi (y := nI (40 * g)) (pk_mul 40 g) ?_
        refine r_iload (pc := 59) C 4 dX6_isTold_59 rfl ?_
        refine r_iadd (pc := 61) C dX6_isTold_61 ?_
        refine r_eqi (y := nI (40 * g + i)) (nI_add (40 * g) i) ?_
        refine al_numbers (pc := 62) C (40 * g + i) (rfl) (by omega) dX6_isTold_62 (σ 17 (40 * g + i)) (congrFun (((su_nn (by decide)).trans (su_nn (by decide)))) _) ?_
        refine r_aload_n (pc := 63) C 0 dX6_isTold_63 rfl rfl ?_
        refine r_iload_n (pc := 64) C 2 dX6_isTold_64 rfl rfl ?_
        refine r_iconst (pc := 65) C 4 dX6_isTold_65 (by decide) ?_
        refine rc_Vi (pc := 66) C (t_X6_its' l ad D cs h (su (su σ 0 (dayF n (daysF n (σ 0) i))) 2 (σ 0)) pre post (dayF n (daysF n (σ 0) i)) ((su_nn (by decide)).trans su_at) o 4 (by omega) (by omega)) mv_X6_its ml_RX6_156 rfl ⟨Nat.le_of_ble_eq_true rfl, Nat.le_of_ble_eq_true rfl⟩ ⟨rfl, rfl⟩ (q0 := 0) rfl rfl rfl rfl rfl rfl (Nat.le_of_ble_eq_true rfl) dX6_isTold_66 ?_
        refine r_icmp_ne (pc := 69) C 76 dX6_isTold_69 (by decide) (fun c_5 => ?_) (fun c_5 => ?_)
        · skip
          refine r_iconst (pc := 76) C 0 dX6_isTold_76 (by decide) ?_
          refine r_istore_n (pc := 77) C [(3, .int 0), (0, .ref (h 0)), (1, .int (nI g)), (2, .int (nI o)), (4, .int (nI i))] dX6_isTold_77 rfl (by decide) rfl ?_
          refine r_iinc (pc := 78) C (nI (i + 1)) 4 [(4, .int (nI (i + 1))), (3, .int 0), (0, .ref (h 0)), (1, .int (nI g)), (2, .int (nI o))] dX6_isTold_78 rfl (nI_1 _) (by decide) rfl ?_
          refine r_goto (pc := 81) C 16 dX6_isTold_81 (by decide) ?_
          refine r_iload (pc := 16) C 0 dX6_isTold_16 rfl ?_
          refine r_aload_n (pc := 18) C 2 dX6_isTold_18 rfl rfl ?_
          refine mg_sizeOf (pc := 19) C fl_RX6_34 dX6_isTold_19 ?_
          refine r_iload_n (pc := 22) C 3 dX6_isTold_22 rfl rfl ?_
          refine al_sizeOf (pc := 23) C g (rfl) (by omega) dX6_isTold_23 (σ 16 g) (congrFun (((su_nn (by decide)).trans (su_nn (by decide)))) _) ?_
          refine r_eqi (y := nI z) (hZ) ?_
          refine r_icmp_ge (pc := 24) C 84 dX6_isTold_24 (by decide) (fun c_6 => ?_) (fun c_6 => ?_)
          · skip
            have c_6 := nIc_ge_t (a := (i + 1)) (b := z) (by omega) (by omega) c_6
            refine r_aload_n (pc := 84) C 2 dX6_isTold_84 rfl rfl ?_
            refine mg_aside (pc := 85) C fl_RX6_16 dX6_isTold_85 ?_
            refine r_aload_n (pc := 88) C 2 dX6_isTold_88 rfl rfl ?_
            refine mg_s (pc := 89) C fl_RX6_7 dX6_isTold_89 ?_
            refine rc_Sv (pc := 92) C (t_X6_copyRow_2_0' l ad D cs h (su (su σ 0 (dayF n (daysF n (σ 0) i))) 2 (σ 0)) pre post (σ 0) (su_at)  ) ms_X6_copyRow ml_RX6_134 rfl ⟨Nat.le_of_ble_eq_true rfl, Nat.le_of_ble_eq_true rfl⟩ ⟨rfl, rfl⟩ rfl rfl rfl (Nat.le_of_ble_eq_true rfl) dX6_isTold_92 ?_
            refine r_blk (blk' := wM cs h (su σ 2 (σ 0))) (congrArg (wM cs h) (by rw [su_cm (k := 2) (j := 0) (by decide), su_su (k := 0), su_id (k := 0) (rfl)])) ?_
            refine r_iload_n (pc := 95) C 1 dX6_isTold_95 rfl rfl ?_
            exact r_iret (pc := 96) C hr hlk dX6_isTold_96 rfl (bI_f (by rw [hx, td_hit (by omega) (by simp_all [tdP, daysF])]; decide)) rfl
          · skip
            have c_6 := nIc_ge_f (a := (i + 1)) (b := z) (by omega) (by omega) c_6
            refine r_iload_n (pc := 27) C 1 dX6_isTold_27 rfl rfl ?_
            refine r_if_eq (pc := 28) C 84 dX6_isTold_28 (by decide) (fun c_7 => ?_) (fun c_7 => ?_)
            · skip
              revert c_7; intro c_7
              refine r_aload_n (pc := 84) C 2 dX6_isTold_84 rfl rfl ?_
              refine mg_aside (pc := 85) C fl_RX6_16 dX6_isTold_85 ?_
              refine r_aload_n (pc := 88) C 2 dX6_isTold_88 rfl rfl ?_
              refine mg_s (pc := 89) C fl_RX6_7 dX6_isTold_89 ?_
              refine rc_Sv (pc := 92) C (t_X6_copyRow_2_0' l ad D cs h (su (su σ 0 (dayF n (daysF n (σ 0) i))) 2 (σ 0)) pre post (σ 0) (su_at)  ) ms_X6_copyRow ml_RX6_134 rfl ⟨Nat.le_of_ble_eq_true rfl, Nat.le_of_ble_eq_true rfl⟩ ⟨rfl, rfl⟩ rfl rfl rfl (Nat.le_of_ble_eq_true rfl) dX6_isTold_92 ?_
              refine r_blk (blk' := wM cs h (su σ 2 (σ 0))) (congrArg (wM cs h) (by rw [su_cm (k := 2) (j := 0) (by decide), su_su (k := 0), su_id (k := 0) (rfl)])) ?_
              refine r_iload_n (pc := 95) C 1 dX6_isTold_95 rfl rfl ?_
              exact r_iret (pc := 96) C hr hlk dX6_isTold_96 rfl (bI_f (by rw [hx, td_hit (by omega) (by simp_all [tdP, daysF])]; decide)) rfl
            · skip
              revert c_7; intro c_7
              exact absurd c_7 (by decide)
        · skip
          refine r_iconst (pc := 72) C 1 dX6_isTold_72 (by decide) ?_
          refine r_goto (pc := 73) C 77 dX6_isTold_73 (by decide) ?_
          refine r_istore_n (pc := 77) C [(3, .int 1), (0, .ref (h 0)), (1, .int (nI g)), (2, .int (nI o)), (4, .int (nI i))] dX6_isTold_77 rfl (by decide) rfl ?_
          refine r_iinc (pc := 78) C (nI (i + 1)) 4 [(4, .int (nI (i + 1))), (3, .int 1), (0, .ref (h 0)), (1, .int (nI g)), (2, .int (nI o))] dX6_isTold_78 rfl (nI_1 _) (by decide) rfl ?_
          refine r_goto (pc := 81) C 16 dX6_isTold_81 (by decide) ?_
          refine r_pick (lv' := [(0, .ref (h 0)), (1, .int (nI g)), (2, .int (nI o)), (3, .int 1), (4, .int (nI (i + 1)))]) [2, 3, 4, 1, 0] rfl ?_
          refine r_blk (blk' := wM cs h (su (su σ 0 (daysF n (σ 0) (i + 1))) 2 (σ 0))) (rfl) ?_
          exact ih (by omega) (hx.trans (td_next (by omega) (by simp_all [tdP, daysF])))
theorem t_X6_isTold' (l : Launch) (ad : Nat → Nat) (D : va_G) (cs : Nat → ClassId) (h : Nat → Nat) (σ : Nat → Nat → Int32) (pre post : va_W) (f0_ : Nat → Int32) (e0_ : σ 0 = f0_) (f16_ : Nat → Int32) (e16_ : σ 16 = f16_) (f17_ : Nat → Int32) (e17_ : σ 17 = f17_) (n g o z : Nat) (hN : f0_ 0 = nI n) (hn : n ≤ 8) (hg : g < 4) (ho : o < n) (hZ : f16_ g = nI z) (hz0 : z ≤ 40) : CTi l yX6_isTold cX6_isTold 5 .boolean ({ frames := 6, cells := 0, slots := 0, locals := 135 }) ad D (tysW cs) (pre ++ (wM cs h σ ++ post)) [.ref (h 0), .int (nI g), .int (nI o)] (bI (tdB (tdP n f0_ (f17_) o g) 0 z = true)) (pre ++ (wM cs h (su σ 2 f0_) ++ post)) := by
  subst e0_; subst e16_; subst e17_
  exact t_X6_isTold l ad D cs h σ pre post n g o z hN hn hg ho hZ hz0
theorem dX6_fits_0 : decode cX6_fits 0 = .ok (.iload_n 1, 1) := by decide +kernel
theorem dX6_fits_1 : decode cX6_fits 1 = .ok (.invokestatic 246, 3) := by decide +kernel
theorem dX6_fits_4 : decode cX6_fits 4 = .ok (.ifCond .eq 21, 3) := by decide +kernel
theorem dX6_fits_7 : decode cX6_fits 7 = .ok (.aload_n 0, 1) := by decide +kernel
theorem dX6_fits_8 : decode cX6_fits 8 = .ok (.iload_n 2, 1) := by decide +kernel
theorem dX6_fits_9 : decode cX6_fits 9 = .ok (.invokevirtual 168, 3) := by decide +kernel
theorem dX6_fits_12 : decode cX6_fits 12 = .ok (.ifCond .eq 13, 3) := by decide +kernel
theorem dX6_fits_15 : decode cX6_fits 15 = .ok (.iload_n 3, 1) := by decide +kernel
theorem dX6_fits_16 : decode cX6_fits 16 = .ok (.i2l, 1) := by decide +kernel
theorem dX6_fits_17 : decode cX6_fits 17 = .ok (.lconst 0, 1) := by decide +kernel
theorem dX6_fits_18 : decode cX6_fits 18 = .ok (.lconst 1, 1) := by decide +kernel
theorem dX6_fits_19 : decode cX6_fits 19 = .ok (.invokestatic 57, 3) := by decide +kernel
theorem dX6_fits_22 : decode cX6_fits 22 = .ok (.ifCond .ne 5, 3) := by decide +kernel
theorem dX6_fits_25 : decode cX6_fits 25 = .ok (.iconst (-1), 1) := by decide +kernel
theorem dX6_fits_26 : decode cX6_fits 26 = .ok (.ireturn, 1) := by decide +kernel
theorem dX6_fits_27 : decode cX6_fits 27 = .ok (.aload_n 0, 1) := by decide +kernel
theorem dX6_fits_28 : decode cX6_fits 28 = .ok (.getfield 31, 3) := by decide +kernel
theorem dX6_fits_31 : decode cX6_fits 31 = .ok (.iload_n 1, 1) := by decide +kernel
theorem dX6_fits_32 : decode cX6_fits 32 = .ok (.iaload, 1) := by decide +kernel
theorem dX6_fits_33 : decode cX6_fits 33 = .ok (.ifCond .ge 6, 3) := by decide +kernel
theorem dX6_fits_36 : decode cX6_fits 36 = .ok (.bipush (-11), 2) := by decide +kernel
theorem dX6_fits_38 : decode cX6_fits 38 = .ok (.ireturn, 1) := by decide +kernel
theorem dX6_fits_39 : decode cX6_fits 39 = .ok (.bipush 8, 2) := by decide +kernel
theorem dX6_fits_41 : decode cX6_fits 41 = .ok (.iconst 5, 1) := by decide +kernel
theorem dX6_fits_42 : decode cX6_fits 42 = .ok (.iload_n 2, 1) := by decide +kernel
theorem dX6_fits_43 : decode cX6_fits 43 = .ok (.imul, 1) := by decide +kernel
theorem dX6_fits_44 : decode cX6_fits 44 = .ok (.iadd, 1) := by decide +kernel
theorem dX6_fits_45 : decode cX6_fits 45 = .ok (.iconst 3, 1) := by decide +kernel
theorem dX6_fits_46 : decode cX6_fits 46 = .ok (.iadd, 1) := by decide +kernel
theorem dX6_fits_47 : decode cX6_fits 47 = .ok (.istore 4, 2) := by decide +kernel
theorem dX6_fits_49 : decode cX6_fits 49 = .ok (.aload_n 0, 1) := by decide +kernel
theorem dX6_fits_50 : decode cX6_fits 50 = .ok (.getfield 7, 3) := by decide +kernel
theorem dX6_fits_53 : decode cX6_fits 53 = .ok (.iload 4, 2) := by decide +kernel
theorem dX6_fits_55 : decode cX6_fits 55 = .ok (.iaload, 1) := by decide +kernel
theorem dX6_fits_56 : decode cX6_fits 56 = .ok (.istore 5, 2) := by decide +kernel
theorem dX6_fits_58 : decode cX6_fits 58 = .ok (.iconst 0, 1) := by decide +kernel
theorem dX6_fits_59 : decode cX6_fits 59 = .ok (.istore 6, 2) := by decide +kernel
theorem dX6_fits_61 : decode cX6_fits 61 = .ok (.bipush (-3), 2) := by decide +kernel
theorem dX6_fits_63 : decode cX6_fits 63 = .ok (.istore 7, 2) := by decide +kernel
theorem dX6_fits_65 : decode cX6_fits 65 = .ok (.bipush 99, 2) := by decide +kernel
theorem dX6_fits_67 : decode cX6_fits 67 = .ok (.istore 8, 2) := by decide +kernel
theorem dX6_fits_69 : decode cX6_fits 69 = .ok (.iload 8, 2) := by decide +kernel
theorem dX6_fits_71 : decode cX6_fits 71 = .ok (.ifCond .lt 55, 3) := by decide +kernel
theorem dX6_fits_74 : decode cX6_fits 74 = .ok (.aload_n 0, 1) := by decide +kernel
theorem dX6_fits_75 : decode cX6_fits 75 = .ok (.getfield 7, 3) := by decide +kernel
theorem dX6_fits_78 : decode cX6_fits 78 = .ok (.iload 4, 2) := by decide +kernel
theorem dX6_fits_80 : decode cX6_fits 80 = .ok (.iload 8, 2) := by decide +kernel
theorem dX6_fits_82 : decode cX6_fits 82 = .ok (.iastore, 1) := by decide +kernel
theorem dX6_fits_83 : decode cX6_fits 83 = .ok (.aload_n 0, 1) := by decide +kernel
theorem dX6_fits_84 : decode cX6_fits 84 = .ok (.iload_n 1, 1) := by decide +kernel
theorem dX6_fits_85 : decode cX6_fits 85 = .ok (.iload_n 2, 1) := by decide +kernel
theorem dX6_fits_86 : decode cX6_fits 86 = .ok (.invokevirtual 249, 3) := by decide +kernel
theorem dX6_fits_89 : decode cX6_fits 89 = .ok (.istore 9, 2) := by decide +kernel
theorem dX6_fits_91 : decode cX6_fits 91 = .ok (.iload 6, 2) := by decide +kernel
theorem dX6_fits_93 : decode cX6_fits 93 = .ok (.iload 9, 2) := by decide +kernel
theorem dX6_fits_95 : decode cX6_fits 95 = .ok (.ifCond .eq 7, 3) := by decide +kernel
theorem dX6_fits_98 : decode cX6_fits 98 = .ok (.iconst 1, 1) := by decide +kernel
theorem dX6_fits_99 : decode cX6_fits 99 = .ok (.goto 4, 3) := by decide +kernel
theorem dX6_fits_102 : decode cX6_fits 102 = .ok (.iconst 0, 1) := by decide +kernel
theorem dX6_fits_103 : decode cX6_fits 103 = .ok (.iadd, 1) := by decide +kernel
theorem dX6_fits_104 : decode cX6_fits 104 = .ok (.istore 6, 2) := by decide +kernel
theorem dX6_fits_106 : decode cX6_fits 106 = .ok (.iload 9, 2) := by decide +kernel
theorem dX6_fits_108 : decode cX6_fits 108 = .ok (.ifCond .eq 8, 3) := by decide +kernel
theorem dX6_fits_111 : decode cX6_fits 111 = .ok (.iload 8, 2) := by decide +kernel
theorem dX6_fits_113 : decode cX6_fits 113 = .ok (.goto 5, 3) := by decide +kernel
theorem dX6_fits_116 : decode cX6_fits 116 = .ok (.iload 7, 2) := by decide +kernel
theorem dX6_fits_118 : decode cX6_fits 118 = .ok (.istore 7, 2) := by decide +kernel
theorem dX6_fits_120 : decode cX6_fits 120 = .ok (.iinc 8 (-1), 3) := by decide +kernel
theorem dX6_fits_123 : decode cX6_fits 123 = .ok (.goto (-54), 3) := by decide +kernel
theorem dX6_fits_126 : decode cX6_fits 126 = .ok (.aload_n 0, 1) := by decide +kernel
theorem dX6_fits_127 : decode cX6_fits 127 = .ok (.getfield 7, 3) := by decide +kernel
theorem dX6_fits_130 : decode cX6_fits 130 = .ok (.iload 4, 2) := by decide +kernel
theorem dX6_fits_132 : decode cX6_fits 132 = .ok (.iload 5, 2) := by decide +kernel
theorem dX6_fits_134 : decode cX6_fits 134 = .ok (.iastore, 1) := by decide +kernel
theorem dX6_fits_135 : decode cX6_fits 135 = .ok (.iload_n 3, 1) := by decide +kernel
theorem dX6_fits_136 : decode cX6_fits 136 = .ok (.ifCond .ne 8, 3) := by decide +kernel
theorem dX6_fits_139 : decode cX6_fits 139 = .ok (.iload 6, 2) := by decide +kernel
theorem dX6_fits_141 : decode cX6_fits 141 = .ok (.goto 5, 3) := by decide +kernel
theorem dX6_fits_144 : decode cX6_fits 144 = .ok (.iload 7, 2) := by decide +kernel
theorem dX6_fits_146 : decode cX6_fits 146 = .ok (.ireturn, 1) := by decide +kernel
set_option maxHeartbeats 400000 in
set_option maxRecDepth 20000 in
theorem t_X6_fits (l : Launch) (ad : Nat → Nat) (D : va_G) (cs : Nat → ClassId) (h : Nat → Nat) (σ : Nat → Nat → Int32) (pre post : va_W) (n : Nat) (g o w : Int32) (hN : σ 0 0 = nI n) (hn : n ≤ 8) (hz : ∀ t : Nat, t < 4 → ∃ z : Nat, z ≤ 40 ∧ σ 16 t = nI z) : CTi l yX6_fits cX6_fits 10 .int ({ frames := 7, cells := 0, slots := 0, locals := 159 }) ad D (tysW cs) (pre ++ (wM cs h σ ++ post)) [.ref (h 0), .int g, .int o, .int w] (gateI (inB g 0 3 && (oneB n o && inB w 0 1)) (if 0 ≤ σ 15 g.toNatClampNeg then (if w = 0 then ftM (fun v_ => tdB (tdP n (upd (σ 0) (8 + 5 * o.toNatClampNeg + 3) (nI v_)) (σ 17) o.toNatClampNeg g.toNatClampNeg) 0 (σ 16 g.toNatClampNeg).toNatClampNeg) 100 else ftL (fun v_ => tdB (tdP n (upd (σ 0) (8 + 5 * o.toNatClampNeg + 3) (nI v_)) (σ 17) o.toNatClampNeg g.toNatClampNeg) 0 (σ 16 g.toNatClampNeg).toNatClampNeg) 100) else -11) (-1)) (pre ++ (wM cs h (su σ 2 (gateF ((inB g 0 3 && (oneB n o && inB w 0 1)) && decide (0 ≤ σ 15 g.toNatClampNeg)) (fbA (σ 0) (σ 2) (8 + 5 * o.toNatClampNeg + 3) 100) (σ 2))) ++ post)) := by
  refine CTi.of (lv0 := [(0, .ref (h 0)), (1, .int g), (2, .int o), (3, .int w)]) (by decide) rfl (Nat.le_of_ble_eq_true rfl) (fun p e s m args below meth c A C hr hlk => ?_)
  have C : Cx p s m args c cX6_fits 10 RX6 ad D (tysW cs) A := C
  refine r_iload_n (pc := 0) C 1 dX6_fits_0 rfl rfl ?_
  refine rc_Si (pc := 1) C (t_X6_isSheet l ad D (tysW cs) (wM cs h σ) pre post  g ) ms_X6_isSheet ml_RX6_246 rfl ⟨Nat.le_of_ble_eq_true rfl, Nat.le_of_ble_eq_true rfl⟩ ⟨rfl, rfl⟩ rfl rfl rfl (Nat.le_of_ble_eq_true rfl) dX6_fits_1 ?_
  refine r_if_eq (pc := 4) C 25 dX6_fits_4 (by decide) (fun c_1 => ?_) (fun c_1 => ?_)
  · skip
    have c_1 := bI_0.mp c_1
    refine r_iconst (pc := 25) C (-1) dX6_fits_25 (by decide) ?_
    exact r_iret (pc := 26) C hr hlk dX6_fits_26 rfl (by first | rfl | (simp [gateI, gateF, *]; done) | simp_all [gateI, gateF]) (by rw [show (gateF ((inB g 0 3 && (oneB n o && inB w 0 1)) && decide (0 ≤ σ 15 g.toNatClampNeg)) (fbA (σ 0) (σ 2) (8 + 5 * o.toNatClampNeg + 3) 100) (σ 2) : Nat → Int32) = σ 2 from (by first | rfl | (simp [gateI, gateF, *]; done) | simp_all [gateI, gateF])] <;> rfl)
  · skip
    have c_1 := bI_n.mp c_1
    obtain ⟨f, l_f, h_f, rfl⟩ := rng_nat 0 3 (by decide) (by decide) c_1
    have e_f : (nI f).toNatClampNeg = f := nI_clamp (by omega)
    refine r_aload_n (pc := 7) C 0 dX6_fits_7 rfl rfl ?_
    refine r_iload_n (pc := 8) C 2 dX6_fits_8 rfl rfl ?_
    refine rc_Vi (pc := 9) C (t_X6_isOne' l ad D cs h σ pre post (σ 0) (rfl) n o hN hn) mv_X6_isOne ml_RX6_168 rfl ⟨Nat.le_of_ble_eq_true rfl, Nat.le_of_ble_eq_true rfl⟩ ⟨rfl, rfl⟩ (q0 := 0) rfl rfl rfl rfl rfl rfl (Nat.le_of_ble_eq_true rfl) dX6_fits_9 ?_
    refine r_if_eq (pc := 12) C 25 dX6_fits_12 (by decide) (fun c_2 => ?_) (fun c_2 => ?_)
    · skip
      have c_2 := bI_0.mp c_2
      refine r_iconst (pc := 25) C (-1) dX6_fits_25 (by decide) ?_
      exact r_iret (pc := 26) C hr hlk dX6_fits_26 rfl (by first | rfl | (simp [gateI, gateF, *]; done) | simp_all [gateI, gateF]) (by rw [show (gateF ((inB (nI f) 0 3 && (oneB n o && inB w 0 1)) && decide (0 ≤ σ 15 (nI f).toNatClampNeg)) (fbA (σ 0) (σ 2) (8 + 5 * o.toNatClampNeg + 3) 100) (σ 2) : Nat → Int32) = σ 2 from (by first | rfl | (simp [gateI, gateF, *]; done) | simp_all [gateI, gateF])] <;> rfl)
    · skip
      have c_2 := bI_n.mp c_2
      obtain ⟨j, h_j, rfl⟩ := one_nat (by omega) c_2
      have e_j : (nI j).toNatClampNeg = j := nI_clamp (by omega)
      refine r_iload_n (pc := 15) C 3 dX6_fits_15 rfl rfl ?_
      refine r_i2l (pc := 16) C dX6_fits_16 ?_
      refine r_lconst (pc := 17) C 0 dX6_fits_17 (by decide) ?_
      refine r_lconst (pc := 18) C 1 dX6_fits_18 (by decide) ?_
      refine rc_Si (pc := 19) C (t_X6_isIn l ad D (tysW cs) (wM cs h σ) pre post  w (0 : Int32) (1 : Int32) ) ms_X6_isIn ml_RX6_57 rfl ⟨Nat.le_of_ble_eq_true rfl, Nat.le_of_ble_eq_true rfl⟩ ⟨rfl, rfl⟩ rfl rfl rfl (Nat.le_of_ble_eq_true rfl) dX6_fits_19 ?_
      refine r_if_ne (pc := 22) C 27 dX6_fits_22 (by decide) (fun c_3 => ?_) (fun c_3 => ?_)
      · skip
        have c_3 := bI_n.mp c_3
        refine r_aload_n (pc := 27) C 0 dX6_fits_27 rfl rfl ?_
        refine mg_sortOf (pc := 28) C fl_RX6_31 dX6_fits_28 ?_
        refine r_iload_n (pc := 31) C 1 dX6_fits_31 rfl rfl ?_
        refine al_sortOf (pc := 32) C f (rfl) (by omega) dX6_fits_32 (σ 15 f) rfl ?_
        refine r_if_ge (pc := 33) C 39 dX6_fits_33 (by decide) (fun c_4 => ?_) (fun c_4 => ?_)
        · skip
          obtain ⟨z, hz1, hz2⟩ := hz f (by omega)
          have e_z : (nI z).toNatClampNeg = z := nI_clamp (by omega)
          refine r_bipush (pc := 39) C 8 dX6_fits_39 (by decide) ?_
          refine r_iconst (pc := 41) C 5 dX6_fits_41 (by decide) ?_
          refine r_iload_n (pc := 42) C 2 dX6_fits_42 rfl rfl ?_
          refine r_imul (pc := 43) C dX6_fits_43 ?_
          refine r_eqi (y := nI (5 * j)) (pk_mul 5 j) ?_
          refine r_iadd (pc := 44) C dX6_fits_44 ?_
          refine r_eqi (y := nI (8 + 5 * j)) (nI_add 8 (5 * j)) ?_
          refine r_iconst (pc := 45) C 3 dX6_fits_45 (by decide) ?_
          refine r_iadd (pc := 46) C dX6_fits_46 ?_
          refine r_eqi (y := nI (8 + 5 * j + 3)) (nI_add (8 + 5 * j) 3) ?_
          refine r_istore (pc := 47) C [(4, .int (nI (8 + 5 * j + 3))), (0, .ref (h 0)), (1, .int (nI f)), (2, .int (nI j)), (3, .int w)] dX6_fits_47 (by decide) rfl ?_
          refine r_aload_n (pc := 49) C 1 dX6_fits_49 rfl rfl ?_
          refine mg_s (pc := 50) C fl_RX6_7 dX6_fits_50 ?_
          refine r_iload (pc := 53) C 0 dX6_fits_53 rfl ?_
          refine al_s (pc := 55) C (8 + 5 * j + 3) (rfl) (by omega) dX6_fits_55 (σ 0 (8 + 5 * j + 3)) rfl ?_
          refine r_istore (pc := 56) C [(5, .int (σ 0 (8 + 5 * j + 3))), (4, .int (nI (8 + 5 * j + 3))), (0, .ref (h 0)), (1, .int (nI f)), (2, .int (nI j)), (3, .int w)] dX6_fits_56 (by decide) rfl ?_
          refine r_iconst (pc := 58) C 0 dX6_fits_58 (by decide) ?_
          refine r_istore (pc := 59) C [(6, .int 0), (5, .int (σ 0 (8 + 5 * j + 3))), (4, .int (nI (8 + 5 * j + 3))), (0, .ref (h 0)), (1, .int (nI f)), (2, .int (nI j)), (3, .int w)] dX6_fits_59 (by decide) rfl ?_
          refine r_bipush (pc := 61) C (-3) dX6_fits_61 (by decide) ?_
          refine r_istore (pc := 63) C [(7, .int (-3)), (6, .int 0), (5, .int (σ 0 (8 + 5 * j + 3))), (4, .int (nI (8 + 5 * j + 3))), (0, .ref (h 0)), (1, .int (nI f)), (2, .int (nI j)), (3, .int w)] dX6_fits_63 (by decide) rfl ?_
          refine r_bipush (pc := 65) C 99 dX6_fits_65 (by decide) ?_
          refine r_istore (pc := 67) C [(8, .int 99), (7, .int (-3)), (6, .int 0), (5, .int (σ 0 (8 + 5 * j + 3))), (4, .int (nI (8 + 5 * j + 3))), (0, .ref (h 0)), (1, .int (nI f)), (2, .int (nI j)), (3, .int w)] dX6_fits_67 (by decide) rfl ?_
          refine r_pick (lv' := [(0, .ref (h 0)), (1, .int (nI f)), (2, .int (nI j)), (3, .int w), (4, .int (nI (8 + 5 * j + 3))), (5, .int (σ 0 (8 + 5 * j + 3))), (6, .int 0), (7, .int (-3)), (8, .int 99)]) [5, 6, 7, 8, 4, 3, 2, 1, 0] rfl ?_
          refine r_lv (lv' := [(0, .ref (h 0)), (1, .int (nI f)), (2, .int (nI j)), (3, .int w), (4, .int (nI (8 + 5 * j + 3))), (5, .int (σ 0 (8 + 5 * j + 3))), (6, .int (ftM (fun v_ => tdB (tdP n (upd (σ 0) (8 + 5 * j + 3) (nI v_)) (σ 17) j f) 0 z) 0)), (7, .int (ftL (fun v_ => tdB (tdP n (upd (σ 0) (8 + 5 * j + 3) (nI v_)) (σ 17) j f) 0 z) 0)), (8, .int (nI (100 - 0) - 1))]) (rfl) ?_
          refine r_blk (blk' := wM cs h (su (su σ 0 (fbS (σ 0) (8 + 5 * j + 3) 0)) 2 (fbA (σ 0) (σ 2) (8 + 5 * j + 3) 0))) (rfl) ?_
          refine r_loop (blkf := fun i => wM cs h (su (su σ 0 (fbS (σ 0) (8 + 5 * j + 3) i)) 2 (fbA (σ 0) (σ 2) (8 + 5 * j + 3) i))) (lvf := fun i => [(0, .ref (h 0)), (1, .int (nI f)), (2, .int (nI j)), (3, .int w), (4, .int (nI (8 + 5 * j + 3))), (5, .int (σ 0 (8 + 5 * j + 3))), (6, .int (ftM (fun v_ => tdB (tdP n (upd (σ 0) (8 + 5 * j + 3) (nI v_)) (σ 17) j f) 0 z) i)), (7, .int (ftL (fun v_ => tdB (tdP n (upd (σ 0) (8 + 5 * j + 3) (nI v_)) (σ 17) j f) 0 z) i)), (8, .int (nI (100 - i) - 1))]) (fun i => True) 100 0 (by omega) (trivial) (fun i h_i _ ih => ?_)
          show VX p l e _ s m args below meth c _ D A 10 pre (wM cs h (su (su σ 0 (fbS (σ 0) (8 + 5 * j + 3) i)) 2 (fbA (σ 0) (σ 2) (8 + 5 * j + 3) i))) post 69 [(0, .ref (h 0)), (1, .int (nI f)), (2, .int (nI j)), (3, .int w), (4, .int (nI (8 + 5 * j + 3))), (5, .int (σ 0 (8 + 5 * j + 3))), (6, .int (ftM (fun v_ => tdB (tdP n (upd (σ 0) (8 + 5 * j + 3) (nI v_)) (σ 17) j f) 0 z) i)), (7, .int (ftL (fun v_ => tdB (tdP n (upd (σ 0) (8 + 5 * j + 3) (nI v_)) (σ 17) j f) 0 z) i)), (8, .int (nI (100 - i) - 1))] []
          refine r_iload (pc := 69) C 8 dX6_fits_69 rfl ?_
          refine r_if_lt (pc := 71) C 126 dX6_fits_71 (by decide) (fun c_5 => ?_) (fun c_5 => ?_)
          · skip
            obtain rfl : i = 100 := dn_0 h_i c_5
            refine r_aload_n (pc := 126) C 0 dX6_fits_126 rfl rfl ?_
            refine mg_s (pc := 127) C fl_RX6_7 dX6_fits_127 ?_
            refine r_iload (pc := 130) C 4 dX6_fits_130 rfl ?_
            refine r_iload (pc := 132) C 5 dX6_fits_132 rfl ?_
            refine as_s (pc := 134) C (8 + 5 * j + 3) (rfl) (by omega) dX6_fits_134 (fbS (σ 0) (8 + 5 * j + 3) 100) ((su_nn (by decide)).trans su_at) ?_
            refine r_blk (blk' := wM cs h (su (su σ 0 (upd (fbS (σ 0) (8 + 5 * j + 3) 100) (8 + 5 * j + 3) (σ 0 (8 + 5 * j + 3)))) 2 (fbA (σ 0) (σ 2) (8 + 5 * j + 3) 100))) (congrArg (wM cs h) (by rw [su_cm (k := 2) (j := 0) (by decide), su_su])) ?_
            refine r_blk (blk' := wM cs h (su (su σ 0 (σ 0)) 2 (fbA (σ 0) (σ 2) (8 + 5 * j + 3) 100))) (by rw [show (upd (fbS (σ 0) (8 + 5 * j + 3) 100) (8 + 5 * j + 3) (σ 0 (8 + 5 * j + 3)) : Nat → Int32) = σ 0 from ((fbS_upd 100).trans upd_id)] <;> rfl) ?_
            refine r_blk (blk' := wM cs h (su σ 2 (fbA (σ 0) (σ 2) (8 + 5 * j + 3) 100))) (congrArg (wM cs h) (by rw [su_id (k := 0) (f := σ 0) (rfl)])) ?_
            refine r_iload_n (pc := 135) C 3 dX6_fits_135 rfl rfl ?_
            refine r_if_ne (pc := 136) C 144 dX6_fits_136 (by decide) (fun c_6 => ?_) (fun c_6 => ?_)
            · skip
              refine r_iload (pc := 144) C 7 dX6_fits_144 rfl ?_
              exact r_iret (pc := 146) C hr hlk dX6_fits_146 rfl (by first | rfl | (simp [gateI, gateF, *]; done) | simp_all [gateI, gateF]) (by rw [show (gateF ((inB (nI f) 0 3 && (oneB n (nI j) && inB w 0 1)) && decide (0 ≤ σ 15 (nI f).toNatClampNeg)) (fbA (σ 0) (σ 2) (8 + 5 * (nI j).toNatClampNeg + 3) 100) (σ 2) : Nat → Int32) = fbA (σ 0) (σ 2) (8 + 5 * j + 3) 100 from (by first | rfl | (simp [gateI, gateF, *]; done) | simp_all [gateI, gateF])] <;> rfl)
            · skip
              refine r_iload (pc := 139) C 6 dX6_fits_139 rfl ?_
              refine r_goto (pc := 141) C 146 dX6_fits_141 (by decide) ?_
              exact r_iret (pc := 146) C hr hlk dX6_fits_146 rfl (by first | rfl | (simp [gateI, gateF, *]; done) | simp_all [gateI, gateF]) (by rw [show (gateF ((inB (nI f) 0 3 && (oneB n (nI j) && inB w 0 1)) && decide (0 ≤ σ 15 (nI f).toNatClampNeg)) (fbA (σ 0) (σ 2) (8 + 5 * (nI j).toNatClampNeg + 3) 100) (σ 2) : Nat → Int32) = fbA (σ 0) (σ 2) (8 + 5 * j + 3) 100 from (by first | rfl | (simp [gateI, gateF, *]; done) | simp_all [gateI, gateF])] <;> rfl)
          · skip
            have hi_ := dn_3 h_i c_5
            refine r_lv (lv' := [(0, .ref (h 0)), (1, .int (nI f)), (2, .int (nI j)), (3, .int w), (4, .int (nI (8 + 5 * j + 3))), (5, .int (σ 0 (8 + 5 * j + 3))), (6, .int (ftM (fun v_ => tdB (tdP n (upd (σ 0) (8 + 5 * j + 3) (nI v_)) (σ 17) j f) 0 z) i)), (7, .int (ftL (fun v_ => tdB (tdP n (upd (σ 0) (8 + 5 * j + 3) (nI v_)) (σ 17) j f) 0 z) i)), (8, .int (nI (99 - i)))]) (lvc rfl (lvc rfl (lvc rfl (lvc rfl (lvc rfl (lvc rfl (lvc rfl (lvc rfl (lvc (congrArg Value.int (dn_1 hi_)) rfl))))))))) ?_
            refine r_aload_n (pc := 74) C 0 dX6_fits_74 rfl rfl ?_
            refine mg_s (pc := 75) C fl_RX6_7 dX6_fits_75 ?_
            refine r_iload (pc := 78) C 4 dX6_fits_78 rfl ?_
            refine r_iload (pc := 80) C 8 dX6_fits_80 rfl ?_
            refine as_s (pc := 82) C (8 + 5 * j + 3) (rfl) (by omega) dX6_fits_82 (fbS (σ 0) (8 + 5 * j + 3) i) ((su_nn (by decide)).trans su_at) ?_
            refine r_blk (blk' := wM cs h (su (su σ 0 (upd (fbS (σ 0) (8 + 5 * j + 3) i) (8 + 5 * j + 3) (nI (99 - i)))) 2 (fbA (σ 0) (σ 2) (8 + 5 * j + 3) i))) (congrArg (wM cs h) (by rw [su_cm (k := 2) (j := 0) (by decide), su_su])) ?_
            refine r_blk (blk' := wM cs h (su (su σ 0 (upd (σ 0) (8 + 5 * j + 3) (nI (99 - i)))) 2 (fbA (σ 0) (σ 2) (8 + 5 * j + 3) i))) (by rw [show (upd (σ 0) (8 + 5 * j + 3) (nI (99 - i)) : Nat → Int32) = upd (fbS (σ 0) (8 + 5 * j + 3) i) (8 + 5 * j + 3) (nI (99 - i)) from Eq.symm (fbS_upd i)] <;> rfl) ?_
            refine r_aload_n (pc := 83) C 0 dX6_fits_83 rfl rfl ?_
            refine r_iload_n (pc := 84) C 1 dX6_fits_84 rfl rfl ?_
            refine r_iload_n (pc := 85) C 2 dX6_fits_85 rfl rfl ?_
            refine rc_Vi (pc := 86) C (t_X6_isTold' l ad D cs h (su (su σ 0 (upd (σ 0) (8 + 5 * j + 3) (nI (99 - i)))) 2 (fbA (σ 0) (σ 2) (8 + 5 * j + 3) i)) pre post (upd (σ 0) (8 + 5 * j + 3) (nI (99 - i))) ((su_nn (by decide)).trans su_at) (σ 16) (((su_nn (by decide)).trans (su_nn (by decide)))) (σ 17) (((su_nn (by decide)).trans (su_nn (by decide)))) n f j z (upd_0 (by omega) hN) hn (by omega) h_j hz2 (by omega)) mv_X6_isTold ml_RX6_249 rfl ⟨Nat.le_of_ble_eq_true rfl, Nat.le_of_ble_eq_true rfl⟩ ⟨rfl, rfl⟩ (q0 := 0) rfl rfl rfl rfl rfl rfl (Nat.le_of_ble_eq_true rfl) dX6_fits_86 ?_
            refine r_blk (blk' := wM cs h (su (su σ 0 (upd (σ 0) (8 + 5 * j + 3) (nI (99 - i)))) 2 (upd (σ 0) (8 + 5 * j + 3) (nI (99 - i))))) (congrArg (wM cs h) (by rw [su_su (k := 2)])) ?_
            refine r_istore (pc := 89) C [(9, .int (bI (tdB (tdP n (upd (σ 0) (8 + 5 * j + 3) (nI (99 - i))) (σ 17) j f) 0 z = true))), (0, .ref (h 0)), (1, .int (nI f)), (2, .int (nI j)), (3, .int w), (4, .int (nI (8 + 5 * j + 3))), (5, .int (σ 0 (8 + 5 * j + 3))), (6, .int (ftM (fun v_ => tdB (tdP n (upd (σ 0) (8 + 5 * j + 3) (nI v_)) (σ 17) j f) 0 z) i)), (7, .int (ftL (fun v_ => tdB (tdP n (upd (σ 0) (8 + 5 * j + 3) (nI v_)) (σ 17) j f) 0 z) i)), (8, .int (nI (99 - i)))] dX6_fits_89 (by decide) rfl ?_
            refine r_iload (pc := 91) C 7 dX6_fits_91 rfl ?_
            refine r_iload (pc := 93) C 0 dX6_fits_93 rfl ?_
            refine r_if_eq (pc := 95) C 102 dX6_fits_95 (by decide) (fun c_7 => ?_) (fun c_7 => ?_)
            · skip
              have c_7 := bI_0.mp c_7
              refine r_iconst (pc := 102) C 0 dX6_fits_102 (by decide) ?_
              refine r_iadd (pc := 103) C dX6_fits_103 ?_
              refine r_istore (pc := 104) C [(6, .int ((ftM (fun v_ => tdB (tdP n (upd (σ 0) (8 + 5 * j + 3) (nI v_)) (σ 17) j f) 0 z) i) + 0)), (9, .int (bI (tdB (tdP n (upd (σ 0) (8 + 5 * j + 3) (nI (99 - i))) (σ 17) j f) 0 z = true))), (0, .ref (h 0)), (1, .int (nI f)), (2, .int (nI j)), (3, .int w), (4, .int (nI (8 + 5 * j + 3))), (5, .int (σ 0 (8 + 5 * j + 3))), (7, .int (ftL (fun v_ => tdB (tdP n (upd (σ 0) (8 + 5 * j + 3) (nI v_)) (σ 17) j f) 0 z) i)), (8, .int (nI (99 - i)))] dX6_fits_104 (by decide) rfl ?_
              refine r_iload (pc := 106) C 1 dX6_fits_106 rfl ?_
              refine r_if_eq (pc := 108) C 116 dX6_fits_108 (by decide) (fun c_8 => ?_) (fun c_8 => ?_)
              · skip
                have c_8 := bI_0.mp c_8
                refine r_iload (pc := 116) C 8 dX6_fits_116 rfl ?_
                refine r_istore (pc := 118) C [(7, .int (ftL (fun v_ => tdB (tdP n (upd (σ 0) (8 + 5 * j + 3) (nI v_)) (σ 17) j f) 0 z) i)), (6, .int ((ftM (fun v_ => tdB (tdP n (upd (σ 0) (8 + 5 * j + 3) (nI v_)) (σ 17) j f) 0 z) i) + 0)), (9, .int (bI (tdB (tdP n (upd (σ 0) (8 + 5 * j + 3) (nI (99 - i))) (σ 17) j f) 0 z = true))), (0, .ref (h 0)), (1, .int (nI f)), (2, .int (nI j)), (3, .int w), (4, .int (nI (8 + 5 * j + 3))), (5, .int (σ 0 (8 + 5 * j + 3))), (8, .int (nI (99 - i)))] dX6_fits_118 (by decide) rfl ?_
                refine r_iinc (pc := 120) C ((nI (99 - i)) + (-1)) 9 [(8, .int ((nI (99 - i)) + (-1))), (7, .int (ftL (fun v_ => tdB (tdP n (upd (σ 0) (8 + 5 * j + 3) (nI v_)) (σ 17) j f) 0 z) i)), (6, .int ((ftM (fun v_ => tdB (tdP n (upd (σ 0) (8 + 5 * j + 3) (nI v_)) (σ 17) j f) 0 z) i) + 0)), (9, .int (bI (tdB (tdP n (upd (σ 0) (8 + 5 * j + 3) (nI (99 - i))) (σ 17) j f) 0 z = true))), (0, .ref (h 0)), (1, .int (nI f)), (2, .int (nI j)), (3, .int w), (4, .int (nI (8 + 5 * j + 3))), (5, .int (σ 0 (8 + 5 * j + 3)))] dX6_fits_120 rfl (rfl) (by decide) rfl ?_
                refine r_goto (pc := 123) C 69 dX6_fits_123 (by decide) ?_
                refine r_pick (lv' := [(0, .ref (h 0)), (1, .int (nI f)), (2, .int (nI j)), (3, .int w), (4, .int (nI (8 + 5 * j + 3))), (5, .int (σ 0 (8 + 5 * j + 3))), (6, .int ((ftM (fun v_ => tdB (tdP n (upd (σ 0) (8 + 5 * j + 3) (nI v_)) (σ 17) j f) 0 z) i) + 0)), (7, .int (ftL (fun v_ => tdB (tdP n (upd (σ 0) (8 + 5 * j + 3) (nI v_)) (σ 17) j f) 0 z) i)), (8, .int ((nI (99 - i)) + (-1)))]) [4, 5, 6, 7, 8, 9, 2, 1, 0] rfl ?_
                refine r_lv (lv' := [(0, .ref (h 0)), (1, .int (nI f)), (2, .int (nI j)), (3, .int w), (4, .int (nI (8 + 5 * j + 3))), (5, .int (σ 0 (8 + 5 * j + 3))), (6, .int (ftM (fun v_ => tdB (tdP n (upd (σ 0) (8 + 5 * j + 3) (nI v_)) (σ 17) j f) 0 z) (i + 1))), (7, .int (ftL (fun v_ => tdB (tdP n (upd (σ 0) (8 + 5 * j + 3) (nI v_)) (σ 17) j f) 0 z) (i + 1))), (8, .int (nI (100 - (i + 1)) - 1))]) (lvc rfl (lvc rfl (lvc rfl (lvc rfl (lvc rfl (lvc rfl (lvc (congrArg Value.int (show ((ftM (fun v_ => tdB (tdP n (upd (σ 0) (8 + 5 * j + 3) (nI v_)) (σ 17) j f) 0 z) i) + 0 : Int32) = ftM (fun v_ => tdB (tdP n (upd (σ 0) (8 + 5 * j + 3) (nI v_)) (σ 17) j f) 0 z) (i + 1) from (by show _ = ftM (fun v_ => tdB (tdP n (upd (σ 0) (8 + 5 * j + 3) (nI v_)) (σ 17) j f) 0 z) i + (if (fun v_ => tdB (tdP n (upd (σ 0) (8 + 5 * j + 3) (nI v_)) (σ 17) j f) 0 z) (99 - i) = true then 1 else 0); rw [if_neg c_7]))) (lvc (congrArg Value.int (show (ftL (fun v_ => tdB (tdP n (upd (σ 0) (8 + 5 * j + 3) (nI v_)) (σ 17) j f) 0 z) i : Int32) = ftL (fun v_ => tdB (tdP n (upd (σ 0) (8 + 5 * j + 3) (nI v_)) (σ 17) j f) 0 z) (i + 1) from (if_neg c_7).symm)) (lvc (congrArg Value.int (show ((nI (99 - i)) + (-1) : Int32) = nI (100 - (i + 1)) - 1 from dn_2 hi_)) rfl))))))))) ?_
                refine r_blk (blk' := wM cs h (su (su σ 0 (fbS (σ 0) (8 + 5 * j + 3) (i + 1))) 2 (fbA (σ 0) (σ 2) (8 + 5 * j + 3) (i + 1)))) (rfl) ?_
                exact ih (by omega) (trivial)
              · skip
                have c_8 := bI_n.mp c_8
                exact absurd c_8 c_7
            · skip
              have c_7 := bI_n.mp c_7
              refine r_iconst (pc := 98) C 1 dX6_fits_98 (by decide) ?_
              refine r_goto (pc := 99) C 103 dX6_fits_99 (by decide) ?_
              refine r_iadd (pc := 103) C dX6_fits_103 ?_
              refine r_istore (pc := 104) C [(6, .int ((ftM (fun v_ => tdB (tdP n (upd (σ 0) (8 + 5 * j + 3) (nI v_)) (σ 17) j f) 0 z) i) + 1)), (9, .int (bI (tdB (tdP n (upd (σ 0) (8 + 5 * j + 3) (nI (99 - i))) (σ 17) j f) 0 z = true))), (0, .ref (h 0)), (1, .int (nI f)), (2, .int (nI j)), (3, .int w), (4, .int (nI (8 + 5 * j + 3))), (5, .int (σ 0 (8 + 5 * j + 3))), (7, .int (ftL (fun v_ => tdB (tdP n (upd (σ 0) (8 + 5 * j + 3) (nI v_)) (σ 17) j f) 0 z) i)), (8, .int (nI (99 - i)))] dX6_fits_104 (by decide) rfl ?_
              refine r_iload (pc := 106) C 1 dX6_fits_106 rfl ?_
              refine r_if_eq (pc := 108) C 116 dX6_fits_108 (by decide) (fun c_9 => ?_) (fun c_9 => ?_)
              · skip
                have c_9 := bI_0.mp c_9
                exact absurd c_7 c_9
              · skip
                have c_9 := bI_n.mp c_9
                refine r_iload (pc := 111) C 9 dX6_fits_111 rfl ?_
                refine r_goto (pc := 113) C 118 dX6_fits_113 (by decide) ?_
                refine r_istore (pc := 118) C [(7, .int (nI (99 - i))), (6, .int ((ftM (fun v_ => tdB (tdP n (upd (σ 0) (8 + 5 * j + 3) (nI v_)) (σ 17) j f) 0 z) i) + 1)), (9, .int (bI (tdB (tdP n (upd (σ 0) (8 + 5 * j + 3) (nI (99 - i))) (σ 17) j f) 0 z = true))), (0, .ref (h 0)), (1, .int (nI f)), (2, .int (nI j)), (3, .int w), (4, .int (nI (8 + 5 * j + 3))), (5, .int (σ 0 (8 + 5 * j + 3))), (8, .int (nI (99 - i)))] dX6_fits_118 (by decide) rfl ?_
                refine r_iinc (pc := 120) C ((nI (99 - i)) + (-1)) 9 [(8, .int ((nI (99 - i)) + (-1))), (7, .int (nI (99 - i))), (6, .int ((ftM (fun v_ => tdB (tdP n (upd (σ 0) (8 + 5 * j + 3) (nI v_)) (σ 17) j f) 0 z) i) + 1)), (9, .int (bI (tdB (tdP n (upd (σ 0) (8 + 5 * j + 3) (nI (99 - i))) (σ 17) j f) 0 z = true))), (0, .ref (h 0)), (1, .int (nI f)), (2, .int (nI j)), (3, .int w), (4, .int (nI (8 + 5 * j + 3))), (5, .int (σ 0 (8 + 5 * j + 3)))] dX6_fits_120 rfl (rfl) (by decide) rfl ?_
                refine r_goto (pc := 123) C 69 dX6_fits_123 (by decide) ?_
                refine r_pick (lv' := [(0, .ref (h 0)), (1, .int (nI f)), (2, .int (nI j)), (3, .int w), (4, .int (nI (8 + 5 * j + 3))), (5, .int (σ 0 (8 + 5 * j + 3))), (6, .int ((ftM (fun v_ => tdB (tdP n (upd (σ 0) (8 + 5 * j + 3) (nI v_)) (σ 17) j f) 0 z) i) + 1)), (7, .int (nI (99 - i))), (8, .int ((nI (99 - i)) + (-1)))]) [4, 5, 6, 7, 8, 9, 2, 1, 0] rfl ?_
                refine r_lv (lv' := [(0, .ref (h 0)), (1, .int (nI f)), (2, .int (nI j)), (3, .int w), (4, .int (nI (8 + 5 * j + 3))), (5, .int (σ 0 (8 + 5 * j + 3))), (6, .int (ftM (fun v_ => tdB (tdP n (upd (σ 0) (8 + 5 * j + 3) (nI v_)) (σ 17) j f) 0 z) (i + 1))), (7, .int (ftL (fun v_ => tdB (tdP n (upd (σ 0) (8 + 5 * j + 3) (nI v_)) (σ 17) j f) 0 z) (i + 1))), (8, .int (nI (100 - (i + 1)) - 1))]) (lvc rfl (lvc rfl (lvc rfl (lvc rfl (lvc rfl (lvc rfl (lvc (congrArg Value.int (show ((ftM (fun v_ => tdB (tdP n (upd (σ 0) (8 + 5 * j + 3) (nI v_)) (σ 17) j f) 0 z) i) + 1 : Int32) = ftM (fun v_ => tdB (tdP n (upd (σ 0) (8 + 5 * j + 3) (nI v_)) (σ 17) j f) 0 z) (i + 1) from (by show _ = ftM (fun v_ => tdB (tdP n (upd (σ 0) (8 + 5 * j + 3) (nI v_)) (σ 17) j f) 0 z) i + (if (fun v_ => tdB (tdP n (upd (σ 0) (8 + 5 * j + 3) (nI v_)) (σ 17) j f) 0 z) (99 - i) = true then 1 else 0); rw [if_pos c_7]))) (lvc (congrArg Value.int (show (nI (99 - i) : Int32) = ftL (fun v_ => tdB (tdP n (upd (σ 0) (8 + 5 * j + 3) (nI v_)) (σ 17) j f) 0 z) (i + 1) from (if_pos c_7).symm)) (lvc (congrArg Value.int (show ((nI (99 - i)) + (-1) : Int32) = nI (100 - (i + 1)) - 1 from dn_2 hi_)) rfl))))))))) ?_
                refine r_blk (blk' := wM cs h (su (su σ 0 (fbS (σ 0) (8 + 5 * j + 3) (i + 1))) 2 (fbA (σ 0) (σ 2) (8 + 5 * j + 3) (i + 1)))) (rfl) ?_
                exact ih (by omega) (trivial)
        · skip
          refine r_bipush (pc := 36) C (-11) dX6_fits_36 (by decide) ?_
          exact r_iret (pc := 38) C hr hlk dX6_fits_38 rfl (by first | rfl | (simp [gateI, gateF, *]; done) | simp_all [gateI, gateF]) (by rw [show (gateF ((inB (nI f) 0 3 && (oneB n (nI j) && inB w 0 1)) && decide (0 ≤ σ 15 (nI f).toNatClampNeg)) (fbA (σ 0) (σ 2) (8 + 5 * (nI j).toNatClampNeg + 3) 100) (σ 2) : Nat → Int32) = σ 2 from (by first | rfl | (simp [gateI, gateF, *]; done) | simp_all [gateI, gateF])] <;> rfl)
      · skip
        have c_3 := bI_0.mp c_3
        refine r_iconst (pc := 25) C (-1) dX6_fits_25 (by decide) ?_
        exact r_iret (pc := 26) C hr hlk dX6_fits_26 rfl (by first | rfl | (simp [gateI, gateF, *]; done) | simp_all [gateI, gateF]) (by rw [show (gateF ((inB (nI f) 0 3 && (oneB n (nI j) && inB w 0 1)) && decide (0 ≤ σ 15 (nI f).toNatClampNeg)) (fbA (σ 0) (σ 2) (8 + 5 * (nI j).toNatClampNeg + 3) 100) (σ 2) : Nat → Int32) = σ 2 from (by first | rfl | (simp [gateI, gateF, *]; done) | simp_all [gateI, gateF])] <;> rfl)
theorem t_X6_fits' (l : Launch) (ad : Nat → Nat) (D : va_G) (cs : Nat → ClassId) (h : Nat → Nat) (σ : Nat → Nat → Int32) (pre post : va_W) (f0_ : Nat → Int32) (e0_ : σ 0 = f0_) (f2_ : Nat → Int32) (e2_ : σ 2 = f2_) (f15_ : Nat → Int32) (e15_ : σ 15 = f15_) (f16_ : Nat → Int32) (e16_ : σ 16 = f16_) (f17_ : Nat → Int32) (e17_ : σ 17 = f17_) (n : Nat) (g o w : Int32) (hN : f0_ 0 = nI n) (hn : n ≤ 8) (hz : ∀ t : Nat, t < 4 → ∃ z : Nat, z ≤ 40 ∧ f16_ t = nI z) : CTi l yX6_fits cX6_fits 10 .int ({ frames := 7, cells := 0, slots := 0, locals := 159 }) ad D (tysW cs) (pre ++ (wM cs h σ ++ post)) [.ref (h 0), .int g, .int o, .int w] (gateI (inB g 0 3 && (oneB n o && inB w 0 1)) (if 0 ≤ f15_ g.toNatClampNeg then (if w = 0 then ftM (fun v_ => tdB (tdP n (upd f0_ (8 + 5 * o.toNatClampNeg + 3) (nI v_)) (f17_) o.toNatClampNeg g.toNatClampNeg) 0 (f16_ g.toNatClampNeg).toNatClampNeg) 100 else ftL (fun v_ => tdB (tdP n (upd f0_ (8 + 5 * o.toNatClampNeg + 3) (nI v_)) (f17_) o.toNatClampNeg g.toNatClampNeg) 0 (f16_ g.toNatClampNeg).toNatClampNeg) 100) else -11) (-1)) (pre ++ (wM cs h (su σ 2 (gateF ((inB g 0 3 && (oneB n o && inB w 0 1)) && decide (0 ≤ f15_ g.toNatClampNeg)) (fbA f0_ (f2_) (8 + 5 * o.toNatClampNeg + 3) 100) (f2_))) ++ post)) := by
  subst e0_; subst e2_; subst e15_; subst e16_; subst e17_
  exact t_X6_fits l ad D cs h σ pre post n g o w hN hn hz
theorem dX6_product_0 : decode cX6_product 0 = .ok (.lconst 1, 1) := by decide +kernel
theorem dX6_product_1 : decode cX6_product 1 = .ok (.lstore_n 1, 1) := by decide +kernel
theorem dX6_product_2 : decode cX6_product 2 = .ok (.iconst 2, 1) := by decide +kernel
theorem dX6_product_3 : decode cX6_product 3 = .ok (.istore_n 3, 1) := by decide +kernel
theorem dX6_product_4 : decode cX6_product 4 = .ok (.iload_n 3, 1) := by decide +kernel
theorem dX6_product_5 : decode cX6_product 5 = .ok (.iload_n 0, 1) := by decide +kernel
theorem dX6_product_6 : decode cX6_product 6 = .ok (.if_icmp .gt 14, 3) := by decide +kernel
theorem dX6_product_9 : decode cX6_product 9 = .ok (.lload_n 1, 1) := by decide +kernel
theorem dX6_product_10 : decode cX6_product 10 = .ok (.iload_n 3, 1) := by decide +kernel
theorem dX6_product_11 : decode cX6_product 11 = .ok (.i2l, 1) := by decide +kernel
theorem dX6_product_12 : decode cX6_product 12 = .ok (.lmul, 1) := by decide +kernel
theorem dX6_product_13 : decode cX6_product 13 = .ok (.lstore_n 1, 1) := by decide +kernel
theorem dX6_product_14 : decode cX6_product 14 = .ok (.iinc 3 1, 3) := by decide +kernel
theorem dX6_product_17 : decode cX6_product 17 = .ok (.goto (-13), 3) := by decide +kernel
theorem dX6_product_20 : decode cX6_product 20 = .ok (.lload_n 1, 1) := by decide +kernel
theorem dX6_product_21 : decode cX6_product 21 = .ok (.lreturn, 1) := by decide +kernel
set_option maxHeartbeats 400000 in
set_option maxRecDepth 20000 in
theorem t_X6_product (l : Launch) (ad : Nat → Nat) (D : va_G) (tys : List (ClassId × FieldType)) (bk : va_W) (pre post : va_W) (k : Nat) (hk : k ≤ 8) : CTl l yX6_product cX6_product 4 ({ frames := 0, cells := 0, slots := 0, locals := 0 }) ad D tys (pre ++ (bk ++ post)) [.int (nI k)] (lN (fcN k)) (pre ++ (bk ++ post)) := by
  refine CTl.of (lv0 := [(0, .int (nI k))]) (by decide) rfl (Nat.le_of_ble_eq_true rfl) (fun p e s m args below meth c A C hr hlk => ?_)
  have C : Cx p s m args c cX6_product 4 RX6 ad D tys A := C
  refine r_lconst (pc := 0) C 1 dX6_product_0 (by decide) ?_
  refine r_lstore_n (pc := 1) C [(1, .long 1), (0, .int (nI k))] dX6_product_1 rfl (by decide) rfl ?_
  refine r_iconst (pc := 2) C 2 dX6_product_2 (by decide) ?_
  refine r_istore_n (pc := 3) C [(3, .int 2), (1, .long 1), (0, .int (nI k))] dX6_product_3 rfl (by decide) rfl ?_
  refine r_pick (lv' := [(0, .int (nI k)), (1, .long 1), (3, .int 2)]) [2, 1, 0] rfl ?_
  refine r_lv (lv' := [(0, .int (nI k)), (1, .long (lN (fcN (0 + 1)))), (3, .int (nI (0 + 2)))]) (rfl) ?_
  refine r_loop (blkf := fun i => bk) (lvf := fun i => [(0, .int (nI k)), (1, .long (lN (fcN (i + 1)))), (3, .int (nI (i + 2)))]) (fun i => True) (k - 1) 0 (by omega) (trivial) (fun i h_i _ ih => ?_)
  show VX p l e _ s m args below meth c _ D A 4 pre bk post 4 [(0, .int (nI k)), (1, .long (lN (fcN (i + 1)))), (3, .int (nI (i + 2)))] []
  refine r_iload_n (pc := 4) C 2 dX6_product_4 rfl rfl ?_
  refine r_iload_n (pc := 5) C 0 dX6_product_5 rfl rfl ?_
  refine r_icmp_gt (pc := 6) C 20 dX6_product_6 (by decide) (fun c_1 => ?_) (fun c_1 => ?_)
  · skip
    have c_1 := nIc_gt_t (a := (i + 2)) (b := k) (by omega) (by omega) c_1
    have hc_ : k < i + 2 := c_1
    refine r_lload_n (pc := 20) C 1 dX6_product_20 rfl rfl ?_
    exact r_lret (pc := 21) C hr hlk dX6_product_21 (by rw [fc_end h_i hc_]) rfl
  · skip
    have c_1 := nIc_gt_f (a := (i + 2)) (b := k) (by omega) (by omega) c_1
    refine r_lload_n (pc := 9) C 1 dX6_product_9 rfl rfl ?_
    refine r_iload_n (pc := 10) C 2 dX6_product_10 rfl rfl ?_
    refine r_i2l (pc := 11) C dX6_product_11 ?_
    refine r_eql (y := lN (i + 2)) (nI_l (by omega)) ?_
    refine r_lmul (pc := 12) C dX6_product_12 ?_
    refine r_eql (y := lN (fcN (i + 1) * (i + 2))) (lN_mul _ _) ?_
    refine r_lstore_n (pc := 13) C [(1, .long (lN (fcN (i + 1) * (i + 2)))), (0, .int (nI k)), (3, .int (nI (i + 2)))] dX6_product_13 rfl (by decide) rfl ?_
    refine r_iinc (pc := 14) C (nI (i + 2 + 1)) 2 [(3, .int (nI (i + 2 + 1))), (1, .long (lN (fcN (i + 1) * (i + 2)))), (0, .int (nI k))] dX6_product_14 rfl (nI_1 _) (by decide) rfl ?_
    refine r_goto (pc := 17) C 4 dX6_product_17 (by decide) ?_
    refine r_pick (lv' := [(0, .int (nI k)), (1, .long (lN (fcN (i + 1) * (i + 2)))), (3, .int (nI (i + 2 + 1)))]) [2, 1, 0] rfl ?_
    refine r_lv (lv' := [(0, .int (nI k)), (1, .long (lN (fcN ((i + 1) + 1)))), (3, .int (nI ((i + 1) + 2)))]) (lvc rfl (lvc (congrArg Value.long (show (lN (fcN (i + 1) * (i + 2)) : Int64) = lN (fcN ((i + 1) + 1)) from (congrArg lN (Nat.mul_comm _ _)))) (lvc rfl rfl))) ?_
    exact ih (by omega) (trivial)
theorem dX6_partOf_0 : decode cX6_partOf 0 = .ok (.lload_n 2, 1) := by decide +kernel
theorem dX6_partOf_1 : decode cX6_partOf 1 = .ok (.lstore 5, 2) := by decide +kernel
theorem dX6_partOf_3 : decode cX6_partOf 3 = .ok (.lload_n 0, 1) := by decide +kernel
theorem dX6_partOf_4 : decode cX6_partOf 4 = .ok (.lstore 7, 2) := by decide +kernel
theorem dX6_partOf_6 : decode cX6_partOf 6 = .ok (.lload 7, 2) := by decide +kernel
theorem dX6_partOf_8 : decode cX6_partOf 8 = .ok (.lconst 0, 1) := by decide +kernel
theorem dX6_partOf_9 : decode cX6_partOf 9 = .ok (.lcmp, 1) := by decide +kernel
theorem dX6_partOf_10 : decode cX6_partOf 10 = .ok (.ifCond .eq 21, 3) := by decide +kernel
theorem dX6_partOf_13 : decode cX6_partOf 13 = .ok (.lload 5, 2) := by decide +kernel
theorem dX6_partOf_15 : decode cX6_partOf 15 = .ok (.lload 7, 2) := by decide +kernel
theorem dX6_partOf_17 : decode cX6_partOf 17 = .ok (.lrem, 1) := by decide +kernel
theorem dX6_partOf_18 : decode cX6_partOf 18 = .ok (.lstore 9, 2) := by decide +kernel
theorem dX6_partOf_20 : decode cX6_partOf 20 = .ok (.lload 7, 2) := by decide +kernel
theorem dX6_partOf_22 : decode cX6_partOf 22 = .ok (.lstore 5, 2) := by decide +kernel
theorem dX6_partOf_24 : decode cX6_partOf 24 = .ok (.lload 9, 2) := by decide +kernel
theorem dX6_partOf_26 : decode cX6_partOf 26 = .ok (.lstore 7, 2) := by decide +kernel
theorem dX6_partOf_28 : decode cX6_partOf 28 = .ok (.goto (-22), 3) := by decide +kernel
theorem dX6_partOf_31 : decode cX6_partOf 31 = .ok (.iload 4, 2) := by decide +kernel
theorem dX6_partOf_33 : decode cX6_partOf 33 = .ok (.ifCond .ne 10, 3) := by decide +kernel
theorem dX6_partOf_36 : decode cX6_partOf 36 = .ok (.lload_n 0, 1) := by decide +kernel
theorem dX6_partOf_37 : decode cX6_partOf 37 = .ok (.lload 5, 2) := by decide +kernel
theorem dX6_partOf_39 : decode cX6_partOf 39 = .ok (.ldiv, 1) := by decide +kernel
theorem dX6_partOf_40 : decode cX6_partOf 40 = .ok (.goto 7, 3) := by decide +kernel
theorem dX6_partOf_43 : decode cX6_partOf 43 = .ok (.lload_n 2, 1) := by decide +kernel
theorem dX6_partOf_44 : decode cX6_partOf 44 = .ok (.lload 5, 2) := by decide +kernel
theorem dX6_partOf_46 : decode cX6_partOf 46 = .ok (.ldiv, 1) := by decide +kernel
theorem dX6_partOf_47 : decode cX6_partOf 47 = .ok (.lreturn, 1) := by decide +kernel
set_option maxHeartbeats 400000 in
set_option maxRecDepth 20000 in
theorem t_X6_partOf (l : Launch) (ad : Nat → Nat) (D : va_G) (tys : List (ClassId × FieldType)) (bk : va_W) (pre post : va_W) (a b : Nat) (q : Int32) (ha : a < 2 ^ 63) (hb9 : b < 2 ^ 63) (hb0 : 0 < b) : CTl l yX6_partOf cX6_partOf 11 ({ frames := 0, cells := 0, slots := 0, locals := 0 }) ad D tys (pre ++ (bk ++ post)) [.long (lN a), .long (lN b), .int q] (lN (prtN a b q)) (pre ++ (bk ++ post)) := by
  refine CTl.of (lv0 := [(0, .long (lN a)), (2, .long (lN b)), (4, .int q)]) (by decide) rfl (Nat.le_of_ble_eq_true rfl) (fun p e s m args below meth c A C hr hlk => ?_)
  have C : Cx p s m args c cX6_partOf 11 RX6 ad D tys A := C
  refine r_lload_n (pc := 0) C 1 dX6_partOf_0 rfl rfl ?_
  refine r_lstore (pc := 1) C [(5, .long (lN b)), (0, .long (lN a)), (2, .long (lN b)), (4, .int q)] dX6_partOf_1 (by decide) rfl ?_
  refine r_lload_n (pc := 3) C 1 dX6_partOf_3 rfl rfl ?_
  refine r_lstore (pc := 4) C [(7, .long (lN a)), (5, .long (lN b)), (0, .long (lN a)), (2, .long (lN b)), (4, .int q)] dX6_partOf_4 (by decide) rfl ?_
  refine r_pick (lv' := [(0, .long (lN a)), (2, .long (lN b)), (4, .int q), (5, .long (lN b)), (7, .long (lN a))]) [2, 3, 4, 1, 0] rfl ?_
  refine r_lv (lv' := [(0, .long (lN a)), (2, .long (lN b)), (4, .int q), (5, .long (lN (giN a b 0).1)), (7, .long (lN (giN a b 0).2))]) (rfl) ?_
  refine r_loop (blkf := fun i => bk) (lvf := fun i => [(0, .long (lN a)), (2, .long (lN b)), (4, .int q), (5, .long (lN (giN a b i).1)), (7, .long (lN (giN a b i).2))]) (fun i => Nat.gcd (giN a b i).1 (giN a b i).2 = Nat.gcd b a ∧ (giN a b i).2 + i ≤ a ∧ (giN a b i).1 < 2 ^ 63 ∧ (giN a b i).2 < 2 ^ 63) a 0 (by omega) (⟨rfl, Nat.le_refl _, hb9, ha⟩) (fun i h_i hx ih => ?_)
  show VX p l e _ s m args below meth c _ D A 11 pre bk post 6 [(0, .long (lN a)), (2, .long (lN b)), (4, .int q), (5, .long (lN (giN a b i).1)), (7, .long (lN (giN a b i).2))] []
  refine r_lload (pc := 6) C 4 dX6_partOf_6 rfl ?_
  refine r_lconst (pc := 8) C 0 dX6_partOf_8 (by decide) ?_
  refine r_lcmp (pc := 9) C dX6_partOf_9 ?_
  refine r_if_eq (pc := 10) C 31 dX6_partOf_10 (by decide) (fun c_1 => ?_) (fun c_1 => ?_)
  · skip
    have c_1 := (lg_cmp_eq _ _).mp c_1
    have hz := lN_z hx.2.2.2 c_1
    have hA : (giN a b i).1 = Nat.gcd b a := by have := hx.1; rw [hz, Nat.gcd_zero_right] at this; exact this
    have hA0 : 0 < (giN a b i).1 := by rw [hA]; exact Nat.gcd_pos_of_pos_left _ hb0
    refine r_iload (pc := 31) C 2 dX6_partOf_31 rfl ?_
    refine r_if_ne (pc := 33) C 43 dX6_partOf_33 (by decide) (fun c_2 => ?_) (fun c_2 => ?_)
    · skip
      refine r_lload_n (pc := 43) C 1 dX6_partOf_43 rfl rfl ?_
      refine r_lload (pc := 44) C 3 dX6_partOf_44 rfl ?_
      refine r_ldiv (pc := 46) C dX6_partOf_46 (lN_ne hA0 hx.2.2.1) ?_
      refine r_eql (y := lN (b / (giN a b i).1)) (pk_lDiv hb9 hA0 hx.2.2.1) ?_
      exact r_lret (pc := 47) C hr hlk dX6_partOf_47 (by simp [prtN, hA, *]) rfl
    · skip
      refine r_lload_n (pc := 36) C 0 dX6_partOf_36 rfl rfl ?_
      refine r_lload (pc := 37) C 3 dX6_partOf_37 rfl ?_
      refine r_ldiv (pc := 39) C dX6_partOf_39 (lN_ne hA0 hx.2.2.1) ?_
      refine r_eql (y := lN (a / (giN a b i).1)) (pk_lDiv ha hA0 hx.2.2.1) ?_
      refine r_goto (pc := 40) C 47 dX6_partOf_40 (by decide) ?_
      exact r_lret (pc := 47) C hr hlk dX6_partOf_47 (by simp [prtN, hA, *]) rfl
  · skip
    have c_1 := mt (lg_cmp_eq _ _).mpr c_1
    have hz := lN_nz c_1
    have hi2 : i < a := by omega
    refine r_lload (pc := 13) C 3 dX6_partOf_13 rfl ?_
    refine r_lload (pc := 15) C 4 dX6_partOf_15 rfl ?_
    refine r_lrem (pc := 17) C dX6_partOf_17 (by assumption) ?_
    refine r_eql (y := lN ((giN a b i).1 % (giN a b i).2)) (pk_lRem hx.2.2.1 (by omega) hx.2.2.2) ?_
    refine r_lstore (pc := 18) C [(9, .long (lN ((giN a b i).1 % (giN a b i).2))), (0, .long (lN a)), (2, .long (lN b)), (4, .int q), (5, .long (lN (giN a b i).1)), (7, .long (lN (giN a b i).2))] dX6_partOf_18 (by decide) rfl ?_
    refine r_lload (pc := 20) C 5 dX6_partOf_20 rfl ?_
    refine r_lstore (pc := 22) C [(5, .long (lN (giN a b i).2)), (9, .long (lN ((giN a b i).1 % (giN a b i).2))), (0, .long (lN a)), (2, .long (lN b)), (4, .int q), (7, .long (lN (giN a b i).2))] dX6_partOf_22 (by decide) rfl ?_
    refine r_lload (pc := 24) C 1 dX6_partOf_24 rfl ?_
    refine r_lstore (pc := 26) C [(7, .long (lN ((giN a b i).1 % (giN a b i).2))), (5, .long (lN (giN a b i).2)), (9, .long (lN ((giN a b i).1 % (giN a b i).2))), (0, .long (lN a)), (2, .long (lN b)), (4, .int q)] dX6_partOf_26 (by decide) rfl ?_
    refine r_goto (pc := 28) C 6 dX6_partOf_28 (by decide) ?_
    refine r_pick (lv' := [(0, .long (lN a)), (2, .long (lN b)), (4, .int q), (5, .long (lN (giN a b i).2)), (7, .long (lN ((giN a b i).1 % (giN a b i).2)))]) [3, 4, 5, 1, 0] rfl ?_
    refine r_lv (lv' := [(0, .long (lN a)), (2, .long (lN b)), (4, .int q), (5, .long (lN (giN a b (i + 1)).1)), (7, .long (lN (giN a b (i + 1)).2))]) (rfl) ?_
    exact ih (by omega) (gi_s hx hz)
theorem dX6_odds_0 : decode cX6_odds 0 = .ok (.iload_n 1, 1) := by decide +kernel
theorem dX6_odds_1 : decode cX6_odds 1 = .ok (.i2l, 1) := by decide +kernel
theorem dX6_odds_2 : decode cX6_odds 2 = .ok (.lconst 0, 1) := by decide +kernel
theorem dX6_odds_3 : decode cX6_odds 3 = .ok (.ldc2_w 55, 3) := by decide +kernel
theorem dX6_odds_6 : decode cX6_odds 6 = .ok (.invokestatic 57, 3) := by decide +kernel
theorem dX6_odds_9 : decode cX6_odds 9 = .ok (.ifCond .eq 24, 3) := by decide +kernel
theorem dX6_odds_12 : decode cX6_odds 12 = .ok (.iload_n 2, 1) := by decide +kernel
theorem dX6_odds_13 : decode cX6_odds 13 = .ok (.i2l, 1) := by decide +kernel
theorem dX6_odds_14 : decode cX6_odds 14 = .ok (.lconst 0, 1) := by decide +kernel
theorem dX6_odds_15 : decode cX6_odds 15 = .ok (.iload_n 1, 1) := by decide +kernel
theorem dX6_odds_16 : decode cX6_odds 16 = .ok (.i2l, 1) := by decide +kernel
theorem dX6_odds_17 : decode cX6_odds 17 = .ok (.invokestatic 57, 3) := by decide +kernel
theorem dX6_odds_20 : decode cX6_odds 20 = .ok (.ifCond .eq 13, 3) := by decide +kernel
theorem dX6_odds_23 : decode cX6_odds 23 = .ok (.iload_n 3, 1) := by decide +kernel
theorem dX6_odds_24 : decode cX6_odds 24 = .ok (.i2l, 1) := by decide +kernel
theorem dX6_odds_25 : decode cX6_odds 25 = .ok (.lconst 0, 1) := by decide +kernel
theorem dX6_odds_26 : decode cX6_odds 26 = .ok (.lconst 1, 1) := by decide +kernel
theorem dX6_odds_27 : decode cX6_odds 27 = .ok (.invokestatic 57, 3) := by decide +kernel
theorem dX6_odds_30 : decode cX6_odds 30 = .ok (.ifCond .ne 7, 3) := by decide +kernel
theorem dX6_odds_33 : decode cX6_odds 33 = .ok (.ldc2_w 252, 3) := by decide +kernel
theorem dX6_odds_36 : decode cX6_odds 36 = .ok (.lreturn, 1) := by decide +kernel
theorem dX6_odds_37 : decode cX6_odds 37 = .ok (.iload_n 1, 1) := by decide +kernel
theorem dX6_odds_38 : decode cX6_odds 38 = .ok (.invokestatic 254, 3) := by decide +kernel
theorem dX6_odds_41 : decode cX6_odds 41 = .ok (.iload_n 2, 1) := by decide +kernel
theorem dX6_odds_42 : decode cX6_odds 42 = .ok (.invokestatic 254, 3) := by decide +kernel
theorem dX6_odds_45 : decode cX6_odds 45 = .ok (.ldiv, 1) := by decide +kernel
theorem dX6_odds_46 : decode cX6_odds 46 = .ok (.iload_n 1, 1) := by decide +kernel
theorem dX6_odds_47 : decode cX6_odds 47 = .ok (.iload_n 2, 1) := by decide +kernel
theorem dX6_odds_48 : decode cX6_odds 48 = .ok (.isub, 1) := by decide +kernel
theorem dX6_odds_49 : decode cX6_odds 49 = .ok (.invokestatic 254, 3) := by decide +kernel
theorem dX6_odds_52 : decode cX6_odds 52 = .ok (.ldiv, 1) := by decide +kernel
theorem dX6_odds_53 : decode cX6_odds 53 = .ok (.lstore 4, 2) := by decide +kernel
theorem dX6_odds_55 : decode cX6_odds 55 = .ok (.lconst 1, 1) := by decide +kernel
theorem dX6_odds_56 : decode cX6_odds 56 = .ok (.lstore 6, 2) := by decide +kernel
theorem dX6_odds_58 : decode cX6_odds 58 = .ok (.iconst 0, 1) := by decide +kernel
theorem dX6_odds_59 : decode cX6_odds 59 = .ok (.istore 8, 2) := by decide +kernel
theorem dX6_odds_61 : decode cX6_odds 61 = .ok (.iload 8, 2) := by decide +kernel
theorem dX6_odds_63 : decode cX6_odds 63 = .ok (.iload_n 1, 1) := by decide +kernel
theorem dX6_odds_64 : decode cX6_odds 64 = .ok (.if_icmp .ge 50, 3) := by decide +kernel
theorem dX6_odds_67 : decode cX6_odds 67 = .ok (.lload 4, 2) := by decide +kernel
theorem dX6_odds_69 : decode cX6_odds 69 = .ok (.iload 8, 2) := by decide +kernel
theorem dX6_odds_71 : decode cX6_odds 71 = .ok (.iload_n 2, 1) := by decide +kernel
theorem dX6_odds_72 : decode cX6_odds 72 = .ok (.if_icmp .ge 14, 3) := by decide +kernel
theorem dX6_odds_75 : decode cX6_odds 75 = .ok (.aload_n 0, 1) := by decide +kernel
theorem dX6_odds_76 : decode cX6_odds 76 = .ok (.getfield 7, 3) := by decide +kernel
theorem dX6_odds_79 : decode cX6_odds 79 = .ok (.bipush 7, 2) := by decide +kernel
theorem dX6_odds_81 : decode cX6_odds 81 = .ok (.iaload, 1) := by decide +kernel
theorem dX6_odds_82 : decode cX6_odds 82 = .ok (.i2l, 1) := by decide +kernel
theorem dX6_odds_83 : decode cX6_odds 83 = .ok (.goto 14, 3) := by decide +kernel
theorem dX6_odds_86 : decode cX6_odds 86 = .ok (.bipush 100, 2) := by decide +kernel
theorem dX6_odds_88 : decode cX6_odds 88 = .ok (.aload_n 0, 1) := by decide +kernel
theorem dX6_odds_89 : decode cX6_odds 89 = .ok (.getfield 7, 3) := by decide +kernel
theorem dX6_odds_92 : decode cX6_odds 92 = .ok (.bipush 7, 2) := by decide +kernel
theorem dX6_odds_94 : decode cX6_odds 94 = .ok (.iaload, 1) := by decide +kernel
theorem dX6_odds_95 : decode cX6_odds 95 = .ok (.isub, 1) := by decide +kernel
theorem dX6_odds_96 : decode cX6_odds 96 = .ok (.i2l, 1) := by decide +kernel
theorem dX6_odds_97 : decode cX6_odds 97 = .ok (.lmul, 1) := by decide +kernel
theorem dX6_odds_98 : decode cX6_odds 98 = .ok (.lstore 4, 2) := by decide +kernel
theorem dX6_odds_100 : decode cX6_odds 100 = .ok (.lload 6, 2) := by decide +kernel
theorem dX6_odds_102 : decode cX6_odds 102 = .ok (.ldc2_w 258, 3) := by decide +kernel
theorem dX6_odds_105 : decode cX6_odds 105 = .ok (.lmul, 1) := by decide +kernel
theorem dX6_odds_106 : decode cX6_odds 106 = .ok (.lstore 6, 2) := by decide +kernel
theorem dX6_odds_108 : decode cX6_odds 108 = .ok (.iinc 8 1, 3) := by decide +kernel
theorem dX6_odds_111 : decode cX6_odds 111 = .ok (.goto (-50), 3) := by decide +kernel
theorem dX6_odds_114 : decode cX6_odds 114 = .ok (.lload 4, 2) := by decide +kernel
theorem dX6_odds_116 : decode cX6_odds 116 = .ok (.lload 6, 2) := by decide +kernel
theorem dX6_odds_118 : decode cX6_odds 118 = .ok (.iload_n 3, 1) := by decide +kernel
theorem dX6_odds_119 : decode cX6_odds 119 = .ok (.invokestatic 260, 3) := by decide +kernel
theorem dX6_odds_122 : decode cX6_odds 122 = .ok (.lreturn, 1) := by decide +kernel
set_option maxHeartbeats 400000 in
set_option maxRecDepth 20000 in
theorem t_X6_odds (l : Launch) (ad : Nat → Nat) (D : va_G) (cs : Nat → ClassId) (h : Nat → Nat) (σ : Nat → Nat → Int32) (pre post : va_W) (n c0 : Nat) (a b q : Int32) (hN : σ 0 0 = nI n) (hn : n ≤ 8) (hS : σ 0 7 = nI c0) (hs : c0 ≤ 99) : CTl l yX6_odds cX6_odds 9 ({ frames := 1, cells := 0, slots := 0, locals := 30 }) ad D (tysW cs) (pre ++ (wM cs h σ ++ post)) [.ref (h 0), .int a, .int b, .int q] (gateL (inB a 0 8 && (inB b 0 a && inB q 0 1)) (lN (prtN (odA a.toNatClampNeg b.toNatClampNeg c0 a.toNatClampNeg) (100 ^ a.toNatClampNeg) q)) (-1)) (pre ++ (wM cs h σ ++ post)) := by
  refine CTl.of (lv0 := [(0, .ref (h 0)), (1, .int a), (2, .int b), (3, .int q)]) (by decide) rfl (Nat.le_of_ble_eq_true rfl) (fun p e s m args below meth c A C hr hlk => ?_)
  have C : Cx p s m args c cX6_odds 9 RX6 ad D (tysW cs) A := C
  refine r_iload_n (pc := 0) C 1 dX6_odds_0 rfl rfl ?_
  refine r_i2l (pc := 1) C dX6_odds_1 ?_
  refine r_lconst (pc := 2) C 0 dX6_odds_2 (by decide) ?_
  refine r_ldc2 (pc := 3) C dX6_odds_3 cn_RX6_55 ?_
  refine rc_Si (pc := 6) C (t_X6_isIn l ad D (tysW cs) (wM cs h σ) pre post  a (0 : Int32) (8 : Int32) ) ms_X6_isIn ml_RX6_57 rfl ⟨Nat.le_of_ble_eq_true rfl, Nat.le_of_ble_eq_true rfl⟩ ⟨rfl, rfl⟩ rfl rfl rfl (Nat.le_of_ble_eq_true rfl) dX6_odds_6 ?_
  refine r_if_eq (pc := 9) C 33 dX6_odds_9 (by decide) (fun c_1 => ?_) (fun c_1 => ?_)
  · skip
    have c_1 := bI_0.mp c_1
    refine r_ldc2 (pc := 33) C dX6_odds_33 cn_RX6_252 ?_
    exact r_lret (pc := 36) C hr hlk dX6_odds_36 (by first | rfl | (simp [gateL, *]; done) | simp_all [gateL]) rfl
  · skip
    have c_1 := bI_n.mp c_1
    obtain ⟨x, l_x, h_x, rfl⟩ := rng_nat 0 8 (by decide) (by decide) c_1
    have e_x : (nI x).toNatClampNeg = x := nI_clamp (by omega)
    refine r_iload_n (pc := 12) C 2 dX6_odds_12 rfl rfl ?_
    refine r_i2l (pc := 13) C dX6_odds_13 ?_
    refine r_lconst (pc := 14) C 0 dX6_odds_14 (by decide) ?_
    refine r_iload_n (pc := 15) C 1 dX6_odds_15 rfl rfl ?_
    refine r_i2l (pc := 16) C dX6_odds_16 ?_
    refine rc_Si (pc := 17) C (t_X6_isIn l ad D (tysW cs) (wM cs h σ) pre post  b (0 : Int32) (nI x) ) ms_X6_isIn ml_RX6_57 rfl ⟨Nat.le_of_ble_eq_true rfl, Nat.le_of_ble_eq_true rfl⟩ ⟨rfl, rfl⟩ rfl rfl rfl (Nat.le_of_ble_eq_true rfl) dX6_odds_17 ?_
    refine r_if_eq (pc := 20) C 33 dX6_odds_20 (by decide) (fun c_2 => ?_) (fun c_2 => ?_)
    · skip
      have c_2 := bI_0.mp c_2
      refine r_ldc2 (pc := 33) C dX6_odds_33 cn_RX6_252 ?_
      exact r_lret (pc := 36) C hr hlk dX6_odds_36 (by first | rfl | (simp [gateL, *]; done) | simp_all [gateL]) rfl
    · skip
      have c_2 := bI_n.mp c_2
      obtain ⟨z, l_z, h_z, rfl⟩ := rng_nat 0 x (by omega) (by omega) c_2
      have e_z : (nI z).toNatClampNeg = z := nI_clamp (by omega)
      refine r_iload_n (pc := 23) C 3 dX6_odds_23 rfl rfl ?_
      refine r_i2l (pc := 24) C dX6_odds_24 ?_
      refine r_lconst (pc := 25) C 0 dX6_odds_25 (by decide) ?_
      refine r_lconst (pc := 26) C 1 dX6_odds_26 (by decide) ?_
      refine rc_Si (pc := 27) C (t_X6_isIn l ad D (tysW cs) (wM cs h σ) pre post  q (0 : Int32) (1 : Int32) ) ms_X6_isIn ml_RX6_57 rfl ⟨Nat.le_of_ble_eq_true rfl, Nat.le_of_ble_eq_true rfl⟩ ⟨rfl, rfl⟩ rfl rfl rfl (Nat.le_of_ble_eq_true rfl) dX6_odds_27 ?_
      refine r_if_ne (pc := 30) C 37 dX6_odds_30 (by decide) (fun c_3 => ?_) (fun c_3 => ?_)
      · skip
        have c_3 := bI_n.mp c_3
        have f1 := fc_8 x (by omega)
        have f2 := fc_8 z (by omega)
        have f3 := fc_8 (x - z) (by omega)
        have g2 := fc_pos z
        have g3 := fc_pos (x - z)
        have f4 : fcN x / fcN z ≤ 40320 := Nat.le_trans (Nat.div_le_self _ _) f1
        have o1 := odA_le (c := c0) (show x ≤ 8 by omega) h_z hs x
        have o2 := p100 (show x ≤ 8 by omega)
        have o4 : 0 < 100 ^ x := Nat.pow_pos (by decide)
        refine r_iload_n (pc := 37) C 1 dX6_odds_37 rfl rfl ?_
        refine rc_Sl (pc := 38) C (t_X6_product l ad D (tysW cs) (wM cs h σ) pre post  x (by omega)) ms_X6_product ml_RX6_254 rfl ⟨Nat.le_of_ble_eq_true rfl, Nat.le_of_ble_eq_true rfl⟩ ⟨rfl, rfl⟩ rfl rfl rfl (Nat.le_of_ble_eq_true rfl) dX6_odds_38 ?_
        refine r_iload_n (pc := 41) C 2 dX6_odds_41 rfl rfl ?_
        refine rc_Sl (pc := 42) C (t_X6_product l ad D (tysW cs) (wM cs h σ) pre post  z (by omega)) ms_X6_product ml_RX6_254 rfl ⟨Nat.le_of_ble_eq_true rfl, Nat.le_of_ble_eq_true rfl⟩ ⟨rfl, rfl⟩ rfl rfl rfl (Nat.le_of_ble_eq_true rfl) dX6_odds_42 ?_
        refine r_ldiv (pc := 45) C dX6_odds_45 (lN_ne (by omega) (by omega)) ?_
        refine r_eql (y := lN (fcN x / fcN z)) (pk_lDiv (by omega) (by omega) (by omega)) ?_
        refine r_iload_n (pc := 46) C 1 dX6_odds_46 rfl rfl ?_
        refine r_iload_n (pc := 47) C 2 dX6_odds_47 rfl rfl ?_
        refine r_isub (pc := 48) C dX6_odds_48 ?_
        refine r_eqi (y := nI (x - z)) (pk_sub (by omega)) ?_
        refine rc_Sl (pc := 49) C (t_X6_product l ad D (tysW cs) (wM cs h σ) pre post  (x - z) (by omega)) ms_X6_product ml_RX6_254 rfl ⟨Nat.le_of_ble_eq_true rfl, Nat.le_of_ble_eq_true rfl⟩ ⟨rfl, rfl⟩ rfl rfl rfl (Nat.le_of_ble_eq_true rfl) dX6_odds_49 ?_
        refine r_ldiv (pc := 52) C dX6_odds_52 (lN_ne (by omega) (by omega)) ?_
        refine r_eql (y := lN (fcN x / fcN z / fcN (x - z))) (pk_lDiv (by omega) (by omega) (by omega)) ?_
        refine r_lstore (pc := 53) C [(4, .long (lN (fcN x / fcN z / fcN (x - z)))), (0, .ref (h 0)), (1, .int (nI x)), (2, .int (nI z)), (3, .int q)] dX6_odds_53 (by decide) rfl ?_
        refine r_lconst (pc := 55) C 1 dX6_odds_55 (by decide) ?_
        refine r_lstore (pc := 56) C [(6, .long 1), (4, .long (lN (fcN x / fcN z / fcN (x - z)))), (0, .ref (h 0)), (1, .int (nI x)), (2, .int (nI z)), (3, .int q)] dX6_odds_56 (by decide) rfl ?_
        refine r_iconst (pc := 58) C 0 dX6_odds_58 (by decide) ?_
        refine r_istore (pc := 59) C [(8, .int 0), (6, .long 1), (4, .long (lN (fcN x / fcN z / fcN (x - z)))), (0, .ref (h 0)), (1, .int (nI x)), (2, .int (nI z)), (3, .int q)] dX6_odds_59 (by decide) rfl ?_
        refine r_pick (lv' := [(0, .ref (h 0)), (1, .int (nI x)), (2, .int (nI z)), (3, .int q), (4, .long (lN (fcN x / fcN z / fcN (x - z)))), (6, .long 1), (8, .int 0)]) [3, 4, 5, 6, 2, 1, 0] rfl ?_
        refine r_lv (lv' := [(0, .ref (h 0)), (1, .int (nI x)), (2, .int (nI z)), (3, .int q), (4, .long (lN (odA x z c0 0))), (6, .long (lN (100 ^ 0))), (8, .int 0)]) (rfl) ?_
        refine r_loop (blkf := fun i => wM cs h σ) (lvf := fun i => [(0, .ref (h 0)), (1, .int (nI x)), (2, .int (nI z)), (3, .int q), (4, .long (lN (odA x z c0 i))), (6, .long (lN (100 ^ i))), (8, .int (nI i))]) (fun i => True) x 0 (by omega) (trivial) (fun i h_i _ ih => ?_)
        show VX p l e _ s m args below meth c _ D A 9 pre (wM cs h σ) post 61 [(0, .ref (h 0)), (1, .int (nI x)), (2, .int (nI z)), (3, .int q), (4, .long (lN (odA x z c0 i))), (6, .long (lN (100 ^ i))), (8, .int (nI i))] []
        refine r_iload (pc := 61) C 6 dX6_odds_61 rfl ?_
        refine r_iload_n (pc := 63) C 1 dX6_odds_63 rfl rfl ?_
        refine r_icmp_ge (pc := 64) C 114 dX6_odds_64 (by decide) (fun c_4 => ?_) (fun c_4 => ?_)
        · skip
          have c_4 := nIc_ge_t (a := i) (b := x) (by omega) (by omega) c_4
          obtain rfl : x = i := by omega
          refine r_lload (pc := 114) C 4 dX6_odds_114 rfl ?_
          refine r_lload (pc := 116) C 5 dX6_odds_116 rfl ?_
          refine r_iload_n (pc := 118) C 3 dX6_odds_118 rfl rfl ?_
          refine rc_Sl (pc := 119) C (t_X6_partOf l ad D (tysW cs) (wM cs h σ) pre post  (odA x z c0 x) (100 ^ x) q (by omega) (by omega) (by omega)) ms_X6_partOf ml_RX6_260 rfl ⟨Nat.le_of_ble_eq_true rfl, Nat.le_of_ble_eq_true rfl⟩ ⟨rfl, rfl⟩ rfl rfl rfl (Nat.le_of_ble_eq_true rfl) dX6_odds_119 ?_
          exact r_lret (pc := 122) C hr hlk dX6_odds_122 (by first | rfl | (simp [gateL, *]; done) | simp_all [gateL]) rfl
        · skip
          have c_4 := nIc_ge_f (a := i) (b := x) (by omega) (by omega) c_4
          refine r_lload (pc := 67) C 4 dX6_odds_67 rfl ?_
          refine r_iload (pc := 69) C 6 dX6_odds_69 rfl ?_
          refine r_iload_n (pc := 71) C 2 dX6_odds_71 rfl rfl ?_
          refine r_icmp_ge (pc := 72) C 86 dX6_odds_72 (by decide) (fun c_5 => ?_) (fun c_5 => ?_)
          · skip
            have c_5 := nIc_ge_t (a := i) (b := z) (by omega) (by omega) c_5
            refine r_bipush (pc := 86) C 100 dX6_odds_86 (by decide) ?_
            refine r_aload_n (pc := 88) C 0 dX6_odds_88 rfl rfl ?_
            refine mg_s (pc := 89) C fl_RX6_7 dX6_odds_89 ?_
            refine r_bipush (pc := 92) C 7 dX6_odds_92 (by decide) ?_
            refine al_s (pc := 94) C 7 (rfl) (by omega) dX6_odds_94 (σ 0 7) rfl ?_
            refine r_eqi (y := nI c0) (hS) ?_
            refine r_isub (pc := 95) C dX6_odds_95 ?_
            refine r_eqi (y := nI (100 - c0)) (pk_sub (a := 100) (by omega)) ?_
            refine r_i2l (pc := 96) C dX6_odds_96 ?_
            refine r_eql (y := lN (100 - c0)) (nI_l (by omega)) ?_
            refine r_lmul (pc := 97) C dX6_odds_97 ?_
            refine r_eql (y := lN (odA x z c0 i * (100 - c0))) (lN_mul _ _) ?_
            refine r_lstore (pc := 98) C [(4, .long (lN (odA x z c0 i * (100 - c0)))), (0, .ref (h 0)), (1, .int (nI x)), (2, .int (nI z)), (3, .int q), (6, .long (lN (100 ^ i))), (8, .int (nI i))] dX6_odds_98 (by decide) rfl ?_
            refine r_lload (pc := 100) C 5 dX6_odds_100 rfl ?_
            refine r_ldc2 (pc := 102) C dX6_odds_102 cn_RX6_258 ?_
            refine r_lmul (pc := 105) C dX6_odds_105 ?_
            refine r_eql (y := lN (100 ^ (i + 1))) (lN_mul (100 ^ i) 100) ?_
            refine r_lstore (pc := 106) C [(6, .long (lN (100 ^ (i + 1)))), (4, .long (lN (odA x z c0 i * (100 - c0)))), (0, .ref (h 0)), (1, .int (nI x)), (2, .int (nI z)), (3, .int q), (8, .int (nI i))] dX6_odds_106 (by decide) rfl ?_
            refine r_iinc (pc := 108) C (nI (i + 1)) 6 [(8, .int (nI (i + 1))), (6, .long (lN (100 ^ (i + 1)))), (4, .long (lN (odA x z c0 i * (100 - c0)))), (0, .ref (h 0)), (1, .int (nI x)), (2, .int (nI z)), (3, .int q)] dX6_odds_108 rfl (nI_1 _) (by decide) rfl ?_
            refine r_goto (pc := 111) C 61 dX6_odds_111 (by decide) ?_
            refine r_pick (lv' := [(0, .ref (h 0)), (1, .int (nI x)), (2, .int (nI z)), (3, .int q), (4, .long (lN (odA x z c0 i * (100 - c0)))), (6, .long (lN (100 ^ (i + 1)))), (8, .int (nI (i + 1)))]) [3, 4, 5, 6, 2, 1, 0] rfl ?_
            refine r_lv (lv' := [(0, .ref (h 0)), (1, .int (nI x)), (2, .int (nI z)), (3, .int q), (4, .long (lN (odA x z c0 (i + 1)))), (6, .long (lN (100 ^ (i + 1)))), (8, .int (nI (i + 1)))]) (lvc rfl (lvc rfl (lvc rfl (lvc rfl (lvc (congrArg Value.long (show (lN (odA x z c0 i * (100 - c0)) : Int64) = lN (odA x z c0 (i + 1)) from (by show _ = lN (odA x z c0 i * (if z ≤ i then 100 - c0 else c0)); rw [if_pos (by omega)]))) (lvc rfl (lvc rfl rfl))))))) ?_
            exact ih (by omega) (trivial)
          · skip
            have c_5 := nIc_ge_f (a := i) (b := z) (by omega) (by omega) c_5
            refine r_aload_n (pc := 75) C 0 dX6_odds_75 rfl rfl ?_
            refine mg_s (pc := 76) C fl_RX6_7 dX6_odds_76 ?_
            refine r_bipush (pc := 79) C 7 dX6_odds_79 (by decide) ?_
            refine al_s (pc := 81) C 7 (rfl) (by omega) dX6_odds_81 (σ 0 7) rfl ?_
            refine r_eqi (y := nI c0) (hS) ?_
            refine r_i2l (pc := 82) C dX6_odds_82 ?_
            refine r_eql (y := lN c0) (nI_l (by omega)) ?_
            refine r_goto (pc := 83) C 97 dX6_odds_83 (by decide) ?_
            refine r_lmul (pc := 97) C dX6_odds_97 ?_
            refine r_eql (y := lN (odA x z c0 i * (c0))) (lN_mul _ _) ?_
            refine r_lstore (pc := 98) C [(4, .long (lN (odA x z c0 i * (c0)))), (0, .ref (h 0)), (1, .int (nI x)), (2, .int (nI z)), (3, .int q), (6, .long (lN (100 ^ i))), (8, .int (nI i))] dX6_odds_98 (by decide) rfl ?_
            refine r_lload (pc := 100) C 5 dX6_odds_100 rfl ?_
            refine r_ldc2 (pc := 102) C dX6_odds_102 cn_RX6_258 ?_
            refine r_lmul (pc := 105) C dX6_odds_105 ?_
            refine r_eql (y := lN (100 ^ (i + 1))) (lN_mul (100 ^ i) 100) ?_
            refine r_lstore (pc := 106) C [(6, .long (lN (100 ^ (i + 1)))), (4, .long (lN (odA x z c0 i * (c0)))), (0, .ref (h 0)), (1, .int (nI x)), (2, .int (nI z)), (3, .int q), (8, .int (nI i))] dX6_odds_106 (by decide) rfl ?_
            refine r_iinc (pc := 108) C (nI (i + 1)) 6 [(8, .int (nI (i + 1))), (6, .long (lN (100 ^ (i + 1)))), (4, .long (lN (odA x z c0 i * (c0)))), (0, .ref (h 0)), (1, .int (nI x)), (2, .int (nI z)), (3, .int q)] dX6_odds_108 rfl (nI_1 _) (by decide) rfl ?_
            refine r_goto (pc := 111) C 61 dX6_odds_111 (by decide) ?_
            refine r_pick (lv' := [(0, .ref (h 0)), (1, .int (nI x)), (2, .int (nI z)), (3, .int q), (4, .long (lN (odA x z c0 i * (c0)))), (6, .long (lN (100 ^ (i + 1)))), (8, .int (nI (i + 1)))]) [3, 4, 5, 6, 2, 1, 0] rfl ?_
            refine r_lv (lv' := [(0, .ref (h 0)), (1, .int (nI x)), (2, .int (nI z)), (3, .int q), (4, .long (lN (odA x z c0 (i + 1)))), (6, .long (lN (100 ^ (i + 1)))), (8, .int (nI (i + 1)))]) (lvc rfl (lvc rfl (lvc rfl (lvc rfl (lvc (congrArg Value.long (show (lN (odA x z c0 i * (c0)) : Int64) = lN (odA x z c0 (i + 1)) from (by show _ = lN (odA x z c0 i * (if z ≤ i then 100 - c0 else c0)); rw [if_neg (by omega)]))) (lvc rfl (lvc rfl rfl))))))) ?_
            exact ih (by omega) (trivial)
      · skip
        have c_3 := bI_0.mp c_3
        refine r_ldc2 (pc := 33) C dX6_odds_33 cn_RX6_252 ?_
        exact r_lret (pc := 36) C hr hlk dX6_odds_36 (by first | rfl | (simp [gateL, *]; done) | simp_all [gateL]) rfl
theorem t_X6_odds' (l : Launch) (ad : Nat → Nat) (D : va_G) (cs : Nat → ClassId) (h : Nat → Nat) (σ : Nat → Nat → Int32) (pre post : va_W) (f0_ : Nat → Int32) (e0_ : σ 0 = f0_) (n c0 : Nat) (a b q : Int32) (hN : f0_ 0 = nI n) (hn : n ≤ 8) (hS : f0_ 7 = nI c0) (hs : c0 ≤ 99) : CTl l yX6_odds cX6_odds 9 ({ frames := 1, cells := 0, slots := 0, locals := 30 }) ad D (tysW cs) (pre ++ (wM cs h σ ++ post)) [.ref (h 0), .int a, .int b, .int q] (gateL (inB a 0 8 && (inB b 0 a && inB q 0 1)) (lN (prtN (odA a.toNatClampNeg b.toNatClampNeg c0 a.toNatClampNeg) (100 ^ a.toNatClampNeg) q)) (-1)) (pre ++ (wM cs h σ ++ post)) := by
  subst e0_
  exact t_X6_odds l ad D cs h σ pre post n c0 a b q hN hn hS hs
theorem dX6_hope_0 : decode cX6_hope 0 = .ok (.iload_n 1, 1) := by decide +kernel
theorem dX6_hope_1 : decode cX6_hope 1 = .ok (.i2l, 1) := by decide +kernel
theorem dX6_hope_2 : decode cX6_hope 2 = .ok (.lconst 0, 1) := by decide +kernel
theorem dX6_hope_3 : decode cX6_hope 3 = .ok (.ldc2_w 146, 3) := by decide +kernel
theorem dX6_hope_6 : decode cX6_hope 6 = .ok (.invokestatic 57, 3) := by decide +kernel
theorem dX6_hope_9 : decode cX6_hope 9 = .ok (.ifCond .eq 34, 3) := by decide +kernel
theorem dX6_hope_12 : decode cX6_hope 12 = .ok (.iload_n 2, 1) := by decide +kernel
theorem dX6_hope_13 : decode cX6_hope 13 = .ok (.i2l, 1) := by decide +kernel
theorem dX6_hope_14 : decode cX6_hope 14 = .ok (.lconst 0, 1) := by decide +kernel
theorem dX6_hope_15 : decode cX6_hope 15 = .ok (.lconst 1, 1) := by decide +kernel
theorem dX6_hope_16 : decode cX6_hope 16 = .ok (.invokestatic 57, 3) := by decide +kernel
theorem dX6_hope_19 : decode cX6_hope 19 = .ok (.ifCond .eq 24, 3) := by decide +kernel
theorem dX6_hope_22 : decode cX6_hope 22 = .ok (.iload_n 1, 1) := by decide +kernel
theorem dX6_hope_23 : decode cX6_hope 23 = .ok (.i2l, 1) := by decide +kernel
theorem dX6_hope_24 : decode cX6_hope 24 = .ok (.aload_n 0, 1) := by decide +kernel
theorem dX6_hope_25 : decode cX6_hope 25 = .ok (.getfield 7, 3) := by decide +kernel
theorem dX6_hope_28 : decode cX6_hope 28 = .ok (.bipush 7, 2) := by decide +kernel
theorem dX6_hope_30 : decode cX6_hope 30 = .ok (.iaload, 1) := by decide +kernel
theorem dX6_hope_31 : decode cX6_hope 31 = .ok (.i2l, 1) := by decide +kernel
theorem dX6_hope_32 : decode cX6_hope 32 = .ok (.lmul, 1) := by decide +kernel
theorem dX6_hope_33 : decode cX6_hope 33 = .ok (.ldc2_w 258, 3) := by decide +kernel
theorem dX6_hope_36 : decode cX6_hope 36 = .ok (.iload_n 2, 1) := by decide +kernel
theorem dX6_hope_37 : decode cX6_hope 37 = .ok (.invokestatic 260, 3) := by decide +kernel
theorem dX6_hope_40 : decode cX6_hope 40 = .ok (.goto 6, 3) := by decide +kernel
theorem dX6_hope_43 : decode cX6_hope 43 = .ok (.ldc2_w 252, 3) := by decide +kernel
theorem dX6_hope_46 : decode cX6_hope 46 = .ok (.lreturn, 1) := by decide +kernel
set_option maxHeartbeats 400000 in
set_option maxRecDepth 20000 in
theorem t_X6_hope (l : Launch) (ad : Nat → Nat) (D : va_G) (cs : Nat → ClassId) (h : Nat → Nat) (σ : Nat → Nat → Int32) (pre post : va_W) (n c0 : Nat) (a q : Int32) (hN : σ 0 0 = nI n) (hn : n ≤ 8) (hS : σ 0 7 = nI c0) (hs : c0 ≤ 99) : CTl l yX6_hope cX6_hope 3 ({ frames := 1, cells := 0, slots := 0, locals := 30 }) ad D (tysW cs) (pre ++ (wM cs h σ ++ post)) [.ref (h 0), .int a, .int q] (gateL (inB a 0 99 && inB q 0 1) (lN (prtN (a.toNatClampNeg * c0) 100 q)) (-1)) (pre ++ (wM cs h σ ++ post)) := by
  refine CTl.of (lv0 := [(0, .ref (h 0)), (1, .int a), (2, .int q)]) (by decide) rfl (Nat.le_of_ble_eq_true rfl) (fun p e s m args below meth c A C hr hlk => ?_)
  have C : Cx p s m args c cX6_hope 3 RX6 ad D (tysW cs) A := C
  refine r_iload_n (pc := 0) C 1 dX6_hope_0 rfl rfl ?_
  refine r_i2l (pc := 1) C dX6_hope_1 ?_
  refine r_lconst (pc := 2) C 0 dX6_hope_2 (by decide) ?_
  refine r_ldc2 (pc := 3) C dX6_hope_3 cn_RX6_146 ?_
  refine rc_Si (pc := 6) C (t_X6_isIn l ad D (tysW cs) (wM cs h σ) pre post  a (0 : Int32) (99 : Int32) ) ms_X6_isIn ml_RX6_57 rfl ⟨Nat.le_of_ble_eq_true rfl, Nat.le_of_ble_eq_true rfl⟩ ⟨rfl, rfl⟩ rfl rfl rfl (Nat.le_of_ble_eq_true rfl) dX6_hope_6 ?_
  refine r_if_eq (pc := 9) C 43 dX6_hope_9 (by decide) (fun c_1 => ?_) (fun c_1 => ?_)
  · skip
    have c_1 := bI_0.mp c_1
    refine r_ldc2 (pc := 43) C dX6_hope_43 cn_RX6_252 ?_
    exact r_lret (pc := 46) C hr hlk dX6_hope_46 (by first | rfl | (simp [gateL, *]; done) | simp_all [gateL]) rfl
  · skip
    have c_1 := bI_n.mp c_1
    obtain ⟨x, l_x, h_x, rfl⟩ := rng_nat 0 99 (by decide) (by decide) c_1
    have e_x : (nI x).toNatClampNeg = x := nI_clamp (by omega)
    refine r_iload_n (pc := 12) C 2 dX6_hope_12 rfl rfl ?_
    refine r_i2l (pc := 13) C dX6_hope_13 ?_
    refine r_lconst (pc := 14) C 0 dX6_hope_14 (by decide) ?_
    refine r_lconst (pc := 15) C 1 dX6_hope_15 (by decide) ?_
    refine rc_Si (pc := 16) C (t_X6_isIn l ad D (tysW cs) (wM cs h σ) pre post  q (0 : Int32) (1 : Int32) ) ms_X6_isIn ml_RX6_57 rfl ⟨Nat.le_of_ble_eq_true rfl, Nat.le_of_ble_eq_true rfl⟩ ⟨rfl, rfl⟩ rfl rfl rfl (Nat.le_of_ble_eq_true rfl) dX6_hope_16 ?_
    refine r_if_eq (pc := 19) C 43 dX6_hope_19 (by decide) (fun c_2 => ?_) (fun c_2 => ?_)
    · skip
      have c_2 := bI_0.mp c_2
      refine r_ldc2 (pc := 43) C dX6_hope_43 cn_RX6_252 ?_
      exact r_lret (pc := 46) C hr hlk dX6_hope_46 (by first | rfl | (simp [gateL, *]; done) | simp_all [gateL]) rfl
    · skip
      have c_2 := bI_n.mp c_2
      refine r_iload_n (pc := 22) C 1 dX6_hope_22 rfl rfl ?_
      refine r_i2l (pc := 23) C dX6_hope_23 ?_
      refine r_eql (y := lN x) (nI_l (by omega)) ?_
      refine r_aload_n (pc := 24) C 0 dX6_hope_24 rfl rfl ?_
      refine mg_s (pc := 25) C fl_RX6_7 dX6_hope_25 ?_
      refine r_bipush (pc := 28) C 7 dX6_hope_28 (by decide) ?_
      refine al_s (pc := 30) C 7 (rfl) (by omega) dX6_hope_30 (σ 0 7) rfl ?_
      refine r_eqi (y := nI c0) (hS) ?_
      refine r_i2l (pc := 31) C dX6_hope_31 ?_
      refine r_eql (y := lN c0) (nI_l (by omega)) ?_
      refine r_lmul (pc := 32) C dX6_hope_32 ?_
      refine r_eql (y := lN (x * c0)) (lN_mul _ _) ?_
      refine r_ldc2 (pc := 33) C dX6_hope_33 cn_RX6_258 ?_
      have hm_ : x * c0 ≤ 99 * 99 := Nat.mul_le_mul h_x hs
      refine r_iload_n (pc := 36) C 2 dX6_hope_36 rfl rfl ?_
      refine rc_Sl (pc := 37) C (t_X6_partOf l ad D (tysW cs) (wM cs h σ) pre post  (x * c0) 100 q (by omega) (by omega) (by omega)) ms_X6_partOf ml_RX6_260 rfl ⟨Nat.le_of_ble_eq_true rfl, Nat.le_of_ble_eq_true rfl⟩ ⟨rfl, rfl⟩ rfl rfl rfl (Nat.le_of_ble_eq_true rfl) dX6_hope_37 ?_
      refine r_goto (pc := 40) C 46 dX6_hope_40 (by decide) ?_
      exact r_lret (pc := 46) C hr hlk dX6_hope_46 (by first | rfl | (simp [gateL, *]; done) | simp_all [gateL]) rfl
theorem t_X6_hope' (l : Launch) (ad : Nat → Nat) (D : va_G) (cs : Nat → ClassId) (h : Nat → Nat) (σ : Nat → Nat → Int32) (pre post : va_W) (f0_ : Nat → Int32) (e0_ : σ 0 = f0_) (n c0 : Nat) (a q : Int32) (hN : f0_ 0 = nI n) (hn : n ≤ 8) (hS : f0_ 7 = nI c0) (hs : c0 ≤ 99) : CTl l yX6_hope cX6_hope 3 ({ frames := 1, cells := 0, slots := 0, locals := 30 }) ad D (tysW cs) (pre ++ (wM cs h σ ++ post)) [.ref (h 0), .int a, .int q] (gateL (inB a 0 99 && inB q 0 1) (lN (prtN (a.toNatClampNeg * c0) 100 q)) (-1)) (pre ++ (wM cs h σ ++ post)) := by
  subst e0_
  exact t_X6_hope l ad D cs h σ pre post n c0 a q hN hn hS hs
