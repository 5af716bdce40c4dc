theorem rg_z {n : Nat} {m : Nat → Int32} {v : Int32} (h : rgM n m) : rgM n (upd m 2 v) := by
  refine ⟨by rw [upd_ne (by decide), upd_ne (by decide)]; exact h.1, fun p hp => ?_⟩
  rw [upd_ne (by omega), upd_ne (by omega)]; exact h.2 p hp
theorem dX5_lucky_0 : decode cX5_lucky 0 = .ok (.aload_n 0, 1) := by decide +kernel
theorem dX5_lucky_1 : decode cX5_lucky 1 = .ok (.getfield 10, 3) := by decide +kernel
theorem dX5_lucky_4 : decode cX5_lucky 4 = .ok (.iload_n 1, 1) := by decide +kernel
theorem dX5_lucky_5 : decode cX5_lucky 5 = .ok (.invokevirtual 116, 3) := by decide +kernel
theorem dX5_lucky_8 : decode cX5_lucky 8 = .ok (.ifCond .eq 13, 3) := by decide +kernel
theorem dX5_lucky_11 : decode cX5_lucky 11 = .ok (.iload_n 2, 1) := by decide +kernel
theorem dX5_lucky_12 : decode cX5_lucky 12 = .ok (.iconst 1, 1) := by decide +kernel
theorem dX5_lucky_13 : decode cX5_lucky 13 = .ok (.bipush 30, 2) := by decide +kernel
theorem dX5_lucky_15 : decode cX5_lucky 15 = .ok (.invokestatic 59, 3) := by decide +kernel
theorem dX5_lucky_18 : decode cX5_lucky 18 = .ok (.ifCond .ne 5, 3) := by decide +kernel
theorem dX5_lucky_21 : decode cX5_lucky 21 = .ok (.iconst (-1), 1) := by decide +kernel
theorem dX5_lucky_22 : decode cX5_lucky 22 = .ok (.ireturn, 1) := by decide +kernel
theorem dX5_lucky_23 : decode cX5_lucky 23 = .ok (.aload_n 0, 1) := by decide +kernel
theorem dX5_lucky_24 : decode cX5_lucky 24 = .ok (.iload_n 1, 1) := by decide +kernel
theorem dX5_lucky_25 : decode cX5_lucky 25 = .ok (.iconst 1, 1) := by decide +kernel
theorem dX5_lucky_26 : decode cX5_lucky 26 = .ok (.invokevirtual 152, 3) := by decide +kernel
theorem dX5_lucky_29 : decode cX5_lucky 29 = .ok (.istore_n 3, 1) := by decide +kernel
theorem dX5_lucky_30 : decode cX5_lucky 30 = .ok (.aload_n 0, 1) := by decide +kernel
theorem dX5_lucky_31 : decode cX5_lucky 31 = .ok (.getfield 10, 3) := by decide +kernel
theorem dX5_lucky_34 : decode cX5_lucky 34 = .ok (.getfield 75, 3) := by decide +kernel
theorem dX5_lucky_37 : decode cX5_lucky 37 = .ok (.istore 4, 2) := by decide +kernel
theorem dX5_lucky_39 : decode cX5_lucky 39 = .ok (.iconst 0, 1) := by decide +kernel
theorem dX5_lucky_40 : decode cX5_lucky 40 = .ok (.istore 5, 2) := by decide +kernel
theorem dX5_lucky_42 : decode cX5_lucky 42 = .ok (.iconst 0, 1) := by decide +kernel
theorem dX5_lucky_43 : decode cX5_lucky 43 = .ok (.istore 6, 2) := by decide +kernel
theorem dX5_lucky_45 : decode cX5_lucky 45 = .ok (.iload 6, 2) := by decide +kernel
theorem dX5_lucky_47 : decode cX5_lucky 47 = .ok (.iload_n 2, 1) := by decide +kernel
theorem dX5_lucky_48 : decode cX5_lucky 48 = .ok (.if_icmp .ge 63, 3) := by decide +kernel
theorem dX5_lucky_51 : decode cX5_lucky 51 = .ok (.aload_n 0, 1) := by decide +kernel
theorem dX5_lucky_52 : decode cX5_lucky 52 = .ok (.getfield 16, 3) := by decide +kernel
theorem dX5_lucky_55 : decode cX5_lucky 55 = .ok (.aload_n 0, 1) := by decide +kernel
theorem dX5_lucky_56 : decode cX5_lucky 56 = .ok (.getfield 10, 3) := by decide +kernel
theorem dX5_lucky_59 : decode cX5_lucky 59 = .ok (.invokevirtual 81, 3) := by decide +kernel
theorem dX5_lucky_62 : decode cX5_lucky 62 = .ok (.aload_n 0, 1) := by decide +kernel
theorem dX5_lucky_63 : decode cX5_lucky 63 = .ok (.getfield 16, 3) := by decide +kernel
theorem dX5_lucky_66 : decode cX5_lucky 66 = .ok (.iload 4, 2) := by decide +kernel
theorem dX5_lucky_68 : decode cX5_lucky 68 = .ok (.putfield 75, 3) := by decide +kernel
theorem dX5_lucky_71 : decode cX5_lucky 71 = .ok (.aload_n 0, 1) := by decide +kernel
theorem dX5_lucky_72 : decode cX5_lucky 72 = .ok (.getfield 16, 3) := by decide +kernel
theorem dX5_lucky_75 : decode cX5_lucky 75 = .ok (.invokevirtual 149, 3) := by decide +kernel
theorem dX5_lucky_78 : decode cX5_lucky 78 = .ok (.aload_n 0, 1) := by decide +kernel
theorem dX5_lucky_79 : decode cX5_lucky 79 = .ok (.getfield 16, 3) := by decide +kernel
theorem dX5_lucky_82 : decode cX5_lucky 82 = .ok (.getfield 75, 3) := by decide +kernel
theorem dX5_lucky_85 : decode cX5_lucky 85 = .ok (.istore 4, 2) := by decide +kernel
theorem dX5_lucky_87 : decode cX5_lucky 87 = .ok (.aload_n 0, 1) := by decide +kernel
theorem dX5_lucky_88 : decode cX5_lucky 88 = .ok (.getfield 16, 3) := by decide +kernel
theorem dX5_lucky_91 : decode cX5_lucky 91 = .ok (.getfield 113, 3) := by decide +kernel
theorem dX5_lucky_94 : decode cX5_lucky 94 = .ok (.iconst 4, 1) := by decide +kernel
theorem dX5_lucky_95 : decode cX5_lucky 95 = .ok (.aaload, 1) := by decide +kernel
theorem dX5_lucky_96 : decode cX5_lucky 96 = .ok (.iload_n 1, 1) := by decide +kernel
theorem dX5_lucky_97 : decode cX5_lucky 97 = .ok (.iaload, 1) := by decide +kernel
theorem dX5_lucky_98 : decode cX5_lucky 98 = .ok (.iload_n 3, 1) := by decide +kernel
theorem dX5_lucky_99 : decode cX5_lucky 99 = .ok (.if_icmp .le 6, 3) := by decide +kernel
theorem dX5_lucky_102 : decode cX5_lucky 102 = .ok (.iinc 5 1, 3) := by decide +kernel
theorem dX5_lucky_105 : decode cX5_lucky 105 = .ok (.iinc 6 1, 3) := by decide +kernel
theorem dX5_lucky_108 : decode cX5_lucky 108 = .ok (.goto (-63), 3) := by decide +kernel
theorem dX5_lucky_111 : decode cX5_lucky 111 = .ok (.iload 5, 2) := by decide +kernel
theorem dX5_lucky_113 : decode cX5_lucky 113 = .ok (.ireturn, 1) := by decide +kernel
set_option maxHeartbeats 400000 in
set_option maxRecDepth 20000 in
theorem t_X5_lucky (l : Launch) (ad : Nat → Nat) (D : va_G) (cs : Nat → ClassId) (h : Nat → Nat) (σ : Nat → Nat → Int32) (pre post : va_W) (n : Nat) (o k : Int32) (hN : σ 0 0 = nI n) (hn : n ≤ 8) (hR : rgM n (σ 0)) : CTi l yX5_lucky cX5_lucky 7 .int ({ frames := 6, cells := 0, slots := 0, locals := 136 }) ad D (tysW cs) (pre ++ (wX cs h σ ++ post)) [.ref (h 0), .int o, .int k] (gateI (oneB n o && inB k 1 30) (lkC n (σ 0) o.toNatClampNeg (dayF n (σ 0) (8 + 5 * o.toNatClampNeg + 4)) k.toNatClampNeg) (-1)) (pre ++ (wX cs h (su σ 2 (gateF (oneB n o && inB k 1 30) (lkS n (σ 0) k.toNatClampNeg) (σ 2))) ++ post)) := by
  refine CTi.of (lv0 := [(0, .ref (h 0)), (1, .int o), (2, .int k)]) (by decide) rfl (Nat.le_of_ble_eq_true rfl) (fun p e s m args below meth c A C hr hlk => ?_)
  have C : Cx p s m args c cX5_lucky 7 RX5 ad D (tysW cs) A := C
  refine r_aload_n (pc := 0) C 0 dX5_lucky_0 rfl rfl ?_
  refine xg_now (pc := 1) C fl_RX5_10 dX5_lucky_1 ?_
  refine r_iload_n (pc := 4) C 1 dX5_lucky_4 rfl rfl ?_
  refine rc_Vi (pc := 5) C (t_X0_exists' l ad D cs (fun j => h (1 + j)) (fun _ => σ 0) (pre ++ xA_0 cs h σ) (xC_0 cs h σ ++ post) (σ 0) rfl n o hN hn) mv_X0_exists ml_RX5_116 rfl ⟨Nat.le_of_ble_eq_true rfl, Nat.le_of_ble_eq_true rfl⟩ ⟨rfl, rfl⟩ (q0 := 0) rfl rfl rfl fx_0 fx_0.symm rfl (Nat.le_of_ble_eq_true rfl) dX5_lucky_5 ?_
  refine r_if_eq (pc := 8) C 21 dX5_lucky_8 (by decide) (fun c_1 => ?_) (fun c_1 => ?_)
  · skip
    have c_1 := bI_0.mp c_1
    refine r_iconst (pc := 21) C (-1) dX5_lucky_21 (by decide) ?_
    exact r_iret (pc := 22) C hr hlk dX5_lucky_22 rfl (by first | rfl | (simp [gateI, gateF, *]; done) | simp_all [gateI, gateF]) (by rw [show (gateF (oneB n o && inB k 1 30) (lkS n (σ 0) k.toNatClampNeg) (σ 2) : Nat → Int32) = σ 2 from (by first | rfl | (simp [gateI, gateF, *]; done) | simp_all [gateI, gateF])] <;> rfl)
  · skip
    have c_1 := bI_n.mp c_1
    obtain ⟨j, h_j, rfl⟩ := one_nat (by omega) c_1
    have e_j : (nI j).toNatClampNeg = j := nI_clamp (by omega)
    refine r_iload_n (pc := 11) C 2 dX5_lucky_11 rfl rfl ?_
    refine r_iconst (pc := 12) C 1 dX5_lucky_12 (by decide) ?_
    refine r_bipush (pc := 13) C 30 dX5_lucky_13 (by decide) ?_
    refine rc_Si (pc := 15) C (t_X5_isWithin l ad D (tysW cs) (wX cs h σ) pre post  k (1 : Int32) (30 : Int32) ) ms_X5_isWithin ml_RX5_59 rfl ⟨Nat.le_of_ble_eq_true rfl, Nat.le_of_ble_eq_true rfl⟩ ⟨rfl, rfl⟩ rfl rfl rfl (Nat.le_of_ble_eq_true rfl) dX5_lucky_15 ?_
    refine r_if_ne (pc := 18) C 23 dX5_lucky_18 (by decide) (fun c_2 => ?_) (fun c_2 => ?_)
    · skip
      have c_2 := bI_n.mp c_2
      obtain ⟨t, l_t, h_t, rfl⟩ := rng_nat 1 30 (by decide) (by decide) c_2
      have e_t : (nI t).toNatClampNeg = t := nI_clamp (by omega)
      refine r_aload_n (pc := 23) C 0 dX5_lucky_23 rfl rfl ?_
      refine r_iload_n (pc := 24) C 1 dX5_lucky_24 rfl rfl ?_
      refine r_iconst (pc := 25) C 1 dX5_lucky_25 (by decide) ?_
      refine rc_Vi (pc := 26) C (t_X5_purseFromNow' l ad D cs h σ pre post (σ 0) (rfl) n j 1 hN hn hR h_j (by omega)) mv_X5_purseFromNow ml_RX5_152 rfl ⟨Nat.le_of_ble_eq_true rfl, Nat.le_of_ble_eq_true rfl⟩ ⟨rfl, rfl⟩ (q0 := 0) rfl rfl rfl rfl rfl rfl (Nat.le_of_ble_eq_true rfl) dX5_lucky_26 ?_
      refine r_istore_n (pc := 29) C [(3, .int (purF n (σ 0) j 1)), (0, .ref (h 0)), (1, .int (nI j)), (2, .int (nI t))] dX5_lucky_29 rfl (by decide) rfl ?_
      refine r_aload_n (pc := 30) C 1 dX5_lucky_30 rfl rfl ?_
      refine xg_now (pc := 31) C fl_RX5_10 dX5_lucky_31 ?_
      refine xg_z_0 (pc := 34) C fl_RX5_75 dX5_lucky_34 (σ 0 2) (congrFun ((su_nn (by decide))) 2) ?_
      refine r_istore (pc := 37) C [(4, .int (σ 0 2)), (3, .int (purF n (σ 0) j 1)), (0, .ref (h 0)), (1, .int (nI j)), (2, .int (nI t))] dX5_lucky_37 (by decide) rfl ?_
      refine r_iconst (pc := 39) C 0 dX5_lucky_39 (by decide) ?_
      refine r_istore (pc := 40) C [(5, .int 0), (4, .int (σ 0 2)), (3, .int (purF n (σ 0) j 1)), (0, .ref (h 0)), (1, .int (nI j)), (2, .int (nI t))] dX5_lucky_40 (by decide) rfl ?_
      refine r_iconst (pc := 42) C 0 dX5_lucky_42 (by decide) ?_
      refine r_istore (pc := 43) C [(6, .int 0), (5, .int 0), (4, .int (σ 0 2)), (3, .int (purF n (σ 0) j 1)), (0, .ref (h 0)), (1, .int (nI j)), (2, .int (nI t))] dX5_lucky_43 (by decide) rfl ?_
      refine r_pick (lv' := [(0, .ref (h 0)), (1, .int (nI j)), (2, .int (nI t)), (3, .int (purF n (σ 0) j 1)), (4, .int (σ 0 2)), (5, .int 0), (6, .int 0)]) [4, 5, 6, 3, 2, 1, 0] rfl ?_
      refine r_lv (lv' := [(0, .ref (h 0)), (1, .int (nI j)), (2, .int (nI t)), (3, .int (dayF n (σ 0) (8 + 5 * j + 4))), (4, .int (lkZ n (σ 0) 0)), (5, .int (lkC n (σ 0) j (dayF n (σ 0) (8 + 5 * j + 4)) 0)), (6, .int 0)]) (rfl) ?_
      refine r_blk (blk' := wX cs h (su σ 2 (lkS n (σ 0) 0))) (rfl) ?_
      refine r_loop (blkf := fun i => wX cs h (su σ 2 (lkS n (σ 0) i))) (lvf := fun i => [(0, .ref (h 0)), (1, .int (nI j)), (2, .int (nI t)), (3, .int (dayF n (σ 0) (8 + 5 * j + 4))), (4, .int (lkZ n (σ 0) i)), (5, .int (lkC n (σ 0) j (dayF n (σ 0) (8 + 5 * j + 4)) i)), (6, .int (nI i))]) (fun i => True) t 0 (by omega) (trivial) (fun i h_i _ ih_45 => ?_)
      show VX p l e _ s m args below meth c _ D A 7 pre (wX cs h (su σ 2 (lkS n (σ 0) i))) post 45 [(0, .ref (h 0)), (1, .int (nI j)), (2, .int (nI t)), (3, .int (dayF n (σ 0) (8 + 5 * j + 4))), (4, .int (lkZ n (σ 0) i)), (5, .int (lkC n (σ 0) j (dayF n (σ 0) (8 + 5 * j + 4)) i)), (6, .int (nI i))] []
      refine r_iload (pc := 45) C 6 dX5_lucky_45 rfl ?_
      refine r_iload_n (pc := 47) C 2 dX5_lucky_47 rfl rfl ?_
      refine r_icmp_ge (pc := 48) C 111 dX5_lucky_48 (by decide) (fun c_3 => ?_) (fun c_3 => ?_)
      · skip
        have c_3 := nIc_ge_t (a := i) (b := t) (by omega) (by omega) c_3
        obtain rfl : t = i := by omega
        refine r_iload (pc := 111) C 5 dX5_lucky_111 rfl ?_
        exact r_iret (pc := 113) C hr hlk dX5_lucky_113 rfl (by first | rfl | (simp [gateI, gateF, *]; done) | simp_all [gateI, gateF]) (by rw [show (gateF (oneB n (nI j) && inB (nI t) 1 30) (lkS n (σ 0) (nI t).toNatClampNeg) (σ 2) : Nat → Int32) = lkS n (σ 0) t from (by first | rfl | (simp [gateI, gateF, *]; done) | simp_all [gateI, gateF])] <;> rfl)
      · skip
        have c_3 := nIc_ge_f (a := i) (b := t) (by omega) (by omega) c_3
        refine r_aload_n (pc := 51) C 0 dX5_lucky_51 rfl rfl ?_
        refine xg_tried (pc := 52) C fl_RX5_16 dX5_lucky_52 ?_
        refine r_aload_n (pc := 55) C 0 dX5_lucky_55 rfl rfl ?_
        refine xg_now (pc := 56) C fl_RX5_10 dX5_lucky_56 ?_
        refine rc_Vv (pc := 59) C (t_X0_copyFrom_0_2' l ad D cs h (su σ 2 (lkS n (σ 0) i)) pre post (σ 0) ((su_nn (by decide)))  ) mv_X0_copyFrom ml_RX5_81 rfl ⟨Nat.le_of_ble_eq_true rfl, Nat.le_of_ble_eq_true rfl⟩ ⟨rfl, rfl⟩ (q0 := 9) rfl rfl rfl rfl rfl rfl (Nat.le_of_ble_eq_true rfl) dX5_lucky_59 ?_
        refine r_blk (blk' := wX cs h (su σ 2 (σ 0))) (congrArg (wX cs h) (by rw [su_su (k := 2)])) ?_
        refine r_aload_n (pc := 62) C 0 dX5_lucky_62 rfl rfl ?_
        refine xg_tried (pc := 63) C fl_RX5_16 dX5_lucky_63 ?_
        refine r_iload (pc := 66) C 4 dX5_lucky_66 rfl ?_
        refine xp_z_2 (pc := 68) C fl_RX5_75 dX5_lucky_68 (σ 0) (su_at) ?_
        refine r_blk (blk' := wX cs h (su σ 2 (upd (σ 0) 2 (lkZ n (σ 0) i)))) (congrArg (wX cs h) (by rw [su_su])) ?_
        refine r_aload_n (pc := 71) C 0 dX5_lucky_71 rfl rfl ?_
        refine xg_tried (pc := 72) C fl_RX5_16 dX5_lucky_72 ?_
        have hrg : rgM n (upd (σ 0) 2 (lkZ n (σ 0) i)) := rg_z hR
        have h0_ : (upd (σ 0) 2 (lkZ n (σ 0) i)) 0 = nI n := upd_0 (by decide) hN
        refine rc_Vv (pc := 75) C (t_X0_passDayByDraws' l ad D cs (fun j => h (9 + j)) (fun _ => upd (σ 0) 2 (lkZ n (σ 0) i)) (pre ++ xA_2 cs h (su σ 2 (upd (σ 0) 2 (lkZ n (σ 0) i)))) (xC_2 cs h (su σ 2 (upd (σ 0) 2 (lkZ n (σ 0) i))) ++ post) (upd (σ 0) 2 (lkZ n (σ 0) i)) rfl n h0_ hn hrg) mv_X0_passDayByDraws ml_RX5_149 rfl ⟨Nat.le_of_ble_eq_true rfl, Nat.le_of_ble_eq_true rfl⟩ ⟨rfl, rfl⟩ (q0 := 0) rfl rfl rfl fx_2 (bx_2 _) rfl (Nat.le_of_ble_eq_true rfl) dX5_lucky_75 ?_
        refine r_blk (blk' := wX cs h (su σ 2 (dayD n (upd (σ 0) 2 (lkZ n (σ 0) i))))) (congrArg (wX cs h) (by rw [su_su (k := 2)])) ?_
        have f_4 : dayD n (upd (σ 0) 2 (lkZ n (σ 0) i)) 0 = nI n := dayD_0 h0_
        refine r_aload_n (pc := 78) C 0 dX5_lucky_78 rfl rfl ?_
        refine xg_tried (pc := 79) C fl_RX5_16 dX5_lucky_79 ?_
        refine xg_z_2 (pc := 82) C fl_RX5_75 dX5_lucky_82 (dayD n (upd (σ 0) 2 (lkZ n (σ 0) i)) 2) (congrFun (su_at) 2) ?_
        refine r_istore (pc := 85) C [(4, .int (dayD n (upd (σ 0) 2 (lkZ n (σ 0) i)) 2)), (0, .ref (h 0)), (1, .int (nI j)), (2, .int (nI t)), (3, .int (dayF n (σ 0) (8 + 5 * j + 4))), (5, .int (lkC n (σ 0) j (dayF n (σ 0) (8 + 5 * j + 4)) i)), (6, .int (nI i))] dX5_lucky_85 (by decide) rfl ?_
        refine r_aload_n (pc := 87) C 1 dX5_lucky_87 rfl rfl ?_
        refine xg_tried (pc := 88) C fl_RX5_16 dX5_lucky_88 ?_
        refine xg_has_2 (pc := 91) C fl_RX5_113 dX5_lucky_91 ?_
        refine r_iconst (pc := 94) C 4 dX5_lucky_94 (by decide) ?_
        refine xa_has_2 (pc := 95) C 4 (rfl) (by omega) dX5_lucky_95 ?_
        refine r_iload_n (pc := 96) C 2 dX5_lucky_96 rfl rfl ?_
        refine xl_row_2 (pc := 97) C 4 (by decide) j (rfl) (by omega) dX5_lucky_97 (dayD n (upd (σ 0) 2 (lkZ n (σ 0) i)) (8 + 5 * j + 4)) (congrFun (su_at) _) ?_
        refine r_iload_n (pc := 98) C 4 dX5_lucky_98 rfl rfl ?_
        refine r_icmp_le (pc := 99) C 105 dX5_lucky_99 (by decide) (fun c_5 => ?_) (fun c_5 => ?_)
        · skip
          refine r_iinc (pc := 105) C (nI (i + 1)) 6 [(6, .int (nI (i + 1))), (4, .int (dayD n (upd (σ 0) 2 (lkZ n (σ 0) i)) 2)), (0, .ref (h 0)), (1, .int (nI j)), (2, .int (nI t)), (3, .int (dayF n (σ 0) (8 + 5 * j + 4))), (5, .int (lkC n (σ 0) j (dayF n (σ 0) (8 + 5 * j + 4)) i))] dX5_lucky_105 rfl (nI_1 _) (by decide) rfl ?_
          refine r_goto (pc := 108) C 45 dX5_lucky_108 (by decide) ?_
          refine r_pick (lv' := [(0, .ref (h 0)), (1, .int (nI j)), (2, .int (nI t)), (3, .int (dayF n (σ 0) (8 + 5 * j + 4))), (4, .int (dayD n (upd (σ 0) 2 (lkZ n (σ 0) i)) 2)), (5, .int (lkC n (σ 0) j (dayF n (σ 0) (8 + 5 * j + 4)) i)), (6, .int (nI (i + 1)))]) [2, 3, 4, 5, 1, 6, 0] rfl ?_
          refine r_lv (lv' := [(0, .ref (h 0)), (1, .int (nI j)), (2, .int (nI t)), (3, .int (dayF n (σ 0) (8 + 5 * j + 4))), (4, .int (lkZ n (σ 0) (i + 1))), (5, .int (lkC n (σ 0) j (dayF n (σ 0) (8 + 5 * j + 4)) (i + 1))), (6, .int (nI (i + 1)))]) (lvc rfl (lvc rfl (lvc rfl (lvc rfl (lvc rfl (lvc (congrArg Value.int (show (lkC n (σ 0) j (dayF n (σ 0) (8 + 5 * j + 4)) i : Int32) = lkC n (σ 0) j (dayF n (σ 0) (8 + 5 * j + 4)) (i + 1) from (by simp [lkC, *]))) (lvc rfl rfl))))))) ?_
          refine r_blk (blk' := wX cs h (su σ 2 (lkS n (σ 0) (i + 1)))) (rfl) ?_
          exact ih_45 (by omega) (trivial)
        · skip
          refine r_iinc (pc := 102) C ((lkC n (σ 0) j (dayF n (σ 0) (8 + 5 * j + 4)) i) + 1) 5 [(5, .int ((lkC n (σ 0) j (dayF n (σ 0) (8 + 5 * j + 4)) i) + 1)), (4, .int (dayD n (upd (σ 0) 2 (lkZ n (σ 0) i)) 2)), (0, .ref (h 0)), (1, .int (nI j)), (2, .int (nI t)), (3, .int (dayF n (σ 0) (8 + 5 * j + 4))), (6, .int (nI i))] dX5_lucky_102 rfl (rfl) (by decide) rfl ?_
          refine r_iinc (pc := 105) C (nI (i + 1)) 6 [(6, .int (nI (i + 1))), (5, .int ((lkC n (σ 0) j (dayF n (σ 0) (8 + 5 * j + 4)) i) + 1)), (4, .int (dayD n (upd (σ 0) 2 (lkZ n (σ 0) i)) 2)), (0, .ref (h 0)), (1, .int (nI j)), (2, .int (nI t)), (3, .int (dayF n (σ 0) (8 + 5 * j + 4)))] dX5_lucky_105 rfl (nI_1 _) (by decide) rfl ?_
          refine r_goto (pc := 108) C 45 dX5_lucky_108 (by decide) ?_
          refine r_pick (lv' := [(0, .ref (h 0)), (1, .int (nI j)), (2, .int (nI t)), (3, .int (dayF n (σ 0) (8 + 5 * j + 4))), (4, .int (dayD n (upd (σ 0) 2 (lkZ n (σ 0) i)) 2)), (5, .int ((lkC n (σ 0) j (dayF n (σ 0) (8 + 5 * j + 4)) i) + 1)), (6, .int (nI (i + 1)))]) [3, 4, 5, 6, 2, 1, 0] rfl ?_
          refine r_lv (lv' := [(0, .ref (h 0)), (1, .int (nI j)), (2, .int (nI t)), (3, .int (dayF n (σ 0) (8 + 5 * j + 4))), (4, .int (lkZ n (σ 0) (i + 1))), (5, .int (lkC n (σ 0) j (dayF n (σ 0) (8 + 5 * j + 4)) (i + 1))), (6, .int (nI (i + 1)))]) (lvc rfl (lvc rfl (lvc rfl (lvc rfl (lvc rfl (lvc (congrArg Value.int (show ((lkC n (σ 0) j (dayF n (σ 0) (8 + 5 * j + 4)) i) + 1 : Int32) = lkC n (σ 0) j (dayF n (σ 0) (8 + 5 * j + 4)) (i + 1) from (by simp [lkC, *]))) (lvc rfl rfl))))))) ?_
          refine r_blk (blk' := wX cs h (su σ 2 (lkS n (σ 0) (i + 1)))) (rfl) ?_
          exact ih_45 (by omega) (trivial)
    · skip
      have c_2 := bI_0.mp c_2
      refine r_iconst (pc := 21) C (-1) dX5_lucky_21 (by decide) ?_
      exact r_iret (pc := 22) C hr hlk dX5_lucky_22 rfl (by first | rfl | (simp [gateI, gateF, *]; done) | simp_all [gateI, gateF]) (by rw [show (gateF (oneB n (nI j) && inB k 1 30) (lkS n (σ 0) k.toNatClampNeg) (σ 2) : Nat → Int32) = σ 2 from (by first | rfl | (simp [gateI, gateF, *]; done) | simp_all [gateI, gateF])] <;> rfl)
theorem t_X5_lucky' (l : Launch) (ad : Nat → Nat) (D : va_G) (cs : Nat → ClassId) (h : Nat → Nat) (σ : Nat → Nat → Int32) (pre post : va_W) (f0_ : Nat → Int32) (e0_ : σ 0 = f0_) (f2_ : Nat → Int32) (e2_ : σ 2 = f2_) (n : Nat) (o k : Int32) (hN : f0_ 0 = nI n) (hn : n ≤ 8) (hR : rgM n f0_) : CTi l yX5_lucky cX5_lucky 7 .int ({ frames := 6, cells := 0, slots := 0, locals := 136 }) ad D (tysW cs) (pre ++ (wX cs h σ ++ post)) [.ref (h 0), .int o, .int k] (gateI (oneB n o && inB k 1 30) (lkC n f0_ o.toNatClampNeg (dayF n f0_ (8 + 5 * o.toNatClampNeg + 4)) k.toNatClampNeg) (-1)) (pre ++ (wX cs h (su σ 2 (gateF (oneB n o && inB k 1 30) (lkS n f0_ k.toNatClampNeg) (f2_))) ++ post)) := by
  subst e0_; subst e2_
  exact t_X5_lucky l ad D cs h σ pre post n o k hN hn hR
