theorem dX0_passDays_0 : decode cX0_passDays 0 = .ok (.iconst 0, 1) := by decide +kernel
theorem dX0_passDays_1 : decode cX0_passDays 1 = .ok (.istore_n 2, 1) := by decide +kernel
theorem dX0_passDays_2 : decode cX0_passDays 2 = .ok (.iload_n 2, 1) := by decide +kernel
theorem dX0_passDays_3 : decode cX0_passDays 3 = .ok (.iload_n 1, 1) := by decide +kernel
theorem dX0_passDays_4 : decode cX0_passDays 4 = .ok (.if_icmp .ge 35, 3) := by decide +kernel
theorem dX0_passDays_7 : decode cX0_passDays 7 = .ok (.aload_n 0, 1) := by decide +kernel
theorem dX0_passDays_8 : decode cX0_passDays 8 = .ok (.getfield 38, 3) := by decide +kernel
theorem dX0_passDays_11 : decode cX0_passDays 11 = .ok (.iconst 2, 1) := by decide +kernel
theorem dX0_passDays_12 : decode cX0_passDays 12 = .ok (.if_icmp .lt 7, 3) := by decide +kernel
theorem dX0_passDays_15 : decode cX0_passDays 15 = .ok (.aload_n 0, 1) := by decide +kernel
theorem dX0_passDays_16 : decode cX0_passDays 16 = .ok (.invokevirtual 63, 3) := by decide +kernel
theorem dX0_passDays_19 : decode cX0_passDays 19 = .ok (.aload_n 0, 1) := by decide +kernel
theorem dX0_passDays_20 : decode cX0_passDays 20 = .ok (.invokevirtual 66, 3) := by decide +kernel
theorem dX0_passDays_23 : decode cX0_passDays 23 = .ok (.aload_n 0, 1) := by decide +kernel
theorem dX0_passDays_24 : decode cX0_passDays 24 = .ok (.dup, 1) := by decide +kernel
theorem dX0_passDays_25 : decode cX0_passDays 25 = .ok (.getfield 41, 3) := by decide +kernel
theorem dX0_passDays_28 : decode cX0_passDays 28 = .ok (.iconst 1, 1) := by decide +kernel
theorem dX0_passDays_29 : decode cX0_passDays 29 = .ok (.iadd, 1) := by decide +kernel
theorem dX0_passDays_30 : decode cX0_passDays 30 = .ok (.putfield 41, 3) := by decide +kernel
theorem dX0_passDays_33 : decode cX0_passDays 33 = .ok (.iinc 2 1, 3) := by decide +kernel
theorem dX0_passDays_36 : decode cX0_passDays 36 = .ok (.goto (-34), 3) := by decide +kernel
theorem dX0_passDays_39 : decode cX0_passDays 39 = .ok (.return_, 1) := by decide +kernel
set_option maxHeartbeats 400000 in
set_option maxRecDepth 20000 in
theorem t_X0_passDays (l : Launch) (ad : Nat → Nat) (D : va_G) (cs : Nat → ClassId) (g : Nat → Nat) (σ : Nat → Nat → Int32) (pre post : va_W) (n : Nat) (k : Nat) (hN : σ 0 0 = nI n) (hn : n ≤ 8) (hR : rgM n (σ 0)) (hk : k ≤ 60) : CTv l yX0_passDays cX0_passDays 3 ({ frames := 4, cells := 0, slots := 0, locals := 92 }) ad D (tysW cs) (pre ++ (wK cs g (σ 0) ++ post)) [.ref (g 0), .int (nI k)] (pre ++ (wK cs g (daysF n (σ 0) k) ++ post)) := by
  refine CTv.of (lv0 := [(0, .ref (g 0)), (1, .int (nI k))]) (by decide) rfl (Nat.le_of_ble_eq_true rfl) (fun p e s m args below meth c A C hr hlk => ?_)
  have C : Cx p s m args c cX0_passDays 3 RX0 ad D (tysW cs) A := C
  refine r_iconst (pc := 0) C 0 dX0_passDays_0 (by decide) ?_
  refine r_istore_n (pc := 1) C [(2, .int 0), (0, .ref (g 0)), (1, .int (nI k))] dX0_passDays_1 rfl (by decide) rfl ?_
  refine r_pick (lv' := [(0, .ref (g 0)), (1, .int (nI k)), (2, .int 0)]) [1, 2, 0] rfl ?_
  refine r_blk (blk' := wK cs g (daysF n (σ 0) 0)) (rfl) ?_
  refine r_loop (blkf := fun i => wK cs g (daysF n (σ 0) i)) (lvf := fun i => [(0, .ref (g 0)), (1, .int (nI k)), (2, .int (nI i))]) (fun i => True) k 0 (by omega) (trivial) (fun i h_i _ ih_2 => ?_)
  show VX p l e _ s m args below meth c _ D A 3 pre (wK cs g (daysF n (σ 0) i)) post 2 [(0, .ref (g 0)), (1, .int (nI k)), (2, .int (nI i))] []
  refine r_iload_n (pc := 2) C 2 dX0_passDays_2 rfl rfl ?_
  refine r_iload_n (pc := 3) C 1 dX0_passDays_3 rfl rfl ?_
  refine r_icmp_ge (pc := 4) C 39 dX0_passDays_4 (by decide) (fun c_1 => ?_) (fun c_1 => ?_)
  · skip
    have c_1 := nIc_ge_t (a := i) (b := k) (by omega) (by omega) c_1
    obtain rfl : k = i := by omega
    exact r_vret (pc := 39) C hr hlk dX0_passDays_39 rfl
  · skip
    have c_1 := nIc_ge_f (a := i) (b := k) (by omega) (by omega) c_1
    refine r_aload_n (pc := 7) C 0 dX0_passDays_7 rfl rfl ?_
    refine kg_count (pc := 8) C fl_RX0_38 dX0_passDays_8 (daysF n (σ 0) i 0) rfl ?_
    refine r_eqi (y := nI n) ((daysF_0 hN)) ?_
    refine r_iconst (pc := 11) C 2 dX0_passDays_11 (by decide) ?_
    refine r_icmp_lt (pc := 12) C 19 dX0_passDays_12 (by decide) (fun c_2 => ?_) (fun c_2 => ?_)
    · skip
      have c_2 := nIc_lt_t (a := n) (b := 2) (by omega) (by omega) c_2
      refine r_blk (blk' := wK cs g (payA n (daysF n (σ 0) i))) (by rw [show (payA n (daysF n (σ 0) i) : Nat → Int32) = daysF n (σ 0) i from Eq.symm (payA_of1 (by omega))] <;> rfl) ?_
      refine r_aload_n (pc := 19) C 0 dX0_passDays_19 rfl rfl ?_
      refine rc_Vv (pc := 20) C (t_X0_frayWebs' l ad D cs g (fun _ => payA n (daysF n (σ 0) i)) pre post (payA n (daysF n (σ 0) i)) (rfl) n (payA_0 (daysF_0 hN)) hn) mv_X0_frayWebs ml_RX0_66 rfl ⟨Nat.le_of_ble_eq_true rfl, Nat.le_of_ble_eq_true rfl⟩ ⟨rfl, rfl⟩ (q0 := 0) rfl rfl rfl rfl rfl rfl (Nat.le_of_ble_eq_true rfl) dX0_passDays_20 ?_
      have f_3 : frayN (payA n (daysF n (σ 0) i)) n 0 = nI n := frayN_0 (payA_0 (daysF_0 hN))
      refine r_aload_n (pc := 23) C 0 dX0_passDays_23 rfl rfl ?_
      refine r_dup (pc := 24) C dX0_passDays_24 rfl ?_
      refine kg_dayNumber (pc := 25) C fl_RX0_41 dX0_passDays_25 (frayN (payA n (daysF n (σ 0) i)) n 1) rfl ?_
      refine r_iconst (pc := 28) C 1 dX0_passDays_28 (by decide) ?_
      refine r_iadd (pc := 29) C dX0_passDays_29 ?_
      refine kp_dayNumber (pc := 30) C fl_RX0_41 dX0_passDays_30 ?_
      refine r_iinc (pc := 33) C (nI (i + 1)) 2 [(2, .int (nI (i + 1))), (0, .ref (g 0)), (1, .int (nI k))] dX0_passDays_33 rfl (nI_1 _) (by decide) rfl ?_
      refine r_goto (pc := 36) C 2 dX0_passDays_36 (by decide) ?_
      refine r_pick (lv' := [(0, .ref (g 0)), (1, .int (nI k)), (2, .int (nI (i + 1)))]) [1, 2, 0] rfl ?_
      refine r_blk (blk' := wK cs g (daysF n (σ 0) (i + 1))) (rfl) ?_
      exact ih_2 (by omega) (trivial)
    · skip
      have c_2 := nIc_lt_f (a := n) (b := 2) (by omega) (by omega) c_2
      refine r_aload_n (pc := 15) C 0 dX0_passDays_15 rfl rfl ?_
      refine rc_Vv (pc := 16) C (t_X0_payRound' l ad D cs g (fun _ => daysF n (σ 0) i) pre post (daysF n (σ 0) i) (rfl) n (daysF_0 hN) hn (rg_days hR i) (by omega)) mv_X0_payRound ml_RX0_63 rfl ⟨Nat.le_of_ble_eq_true rfl, Nat.le_of_ble_eq_true rfl⟩ ⟨rfl, rfl⟩ (q0 := 0) rfl rfl rfl rfl rfl rfl (Nat.le_of_ble_eq_true rfl) dX0_passDays_16 ?_
      have f_4 : payN n (daysF n (σ 0) i) n 0 = nI n := payN_0 (daysF_0 hN)
      refine r_blk (blk' := wK cs g (payA n (daysF n (σ 0) i))) (by rw [show (payA n (daysF n (σ 0) i) : Nat → Int32) = payN n (daysF n (σ 0) i) n from Eq.symm (payA_of (by omega))] <;> rfl) ?_
      refine r_aload_n (pc := 19) C 0 dX0_passDays_19 rfl rfl ?_
      refine rc_Vv (pc := 20) C (t_X0_frayWebs' l ad D cs g (fun _ => payA n (daysF n (σ 0) i)) pre post (payA n (daysF n (σ 0) i)) (rfl) n (payA_0 (daysF_0 hN)) hn) mv_X0_frayWebs ml_RX0_66 rfl ⟨Nat.le_of_ble_eq_true rfl, Nat.le_of_ble_eq_true rfl⟩ ⟨rfl, rfl⟩ (q0 := 0) rfl rfl rfl rfl rfl rfl (Nat.le_of_ble_eq_true rfl) dX0_passDays_20 ?_
      have f_5 : frayN (payA n (daysF n (σ 0) i)) n 0 = nI n := frayN_0 (payA_0 (daysF_0 hN))
      refine r_aload_n (pc := 23) C 0 dX0_passDays_23 rfl rfl ?_
      refine r_dup (pc := 24) C dX0_passDays_24 rfl ?_
      refine kg_dayNumber (pc := 25) C fl_RX0_41 dX0_passDays_25 (frayN (payA n (daysF n (σ 0) i)) n 1) rfl ?_
      refine r_iconst (pc := 28) C 1 dX0_passDays_28 (by decide) ?_
      refine r_iadd (pc := 29) C dX0_passDays_29 ?_
      refine kp_dayNumber (pc := 30) C fl_RX0_41 dX0_passDays_30 ?_
      refine r_iinc (pc := 33) C (nI (i + 1)) 2 [(2, .int (nI (i + 1))), (0, .ref (g 0)), (1, .int (nI k))] dX0_passDays_33 rfl (nI_1 _) (by decide) rfl ?_
      refine r_goto (pc := 36) C 2 dX0_passDays_36 (by decide) ?_
      refine r_pick (lv' := [(0, .ref (g 0)), (1, .int (nI k)), (2, .int (nI (i + 1)))]) [1, 2, 0] rfl ?_
      refine r_blk (blk' := wK cs g (daysF n (σ 0) (i + 1))) (rfl) ?_
      exact ih_2 (by omega) (trivial)
theorem t_X0_passDays' (l : Launch) (ad : Nat → Nat) (D : va_G) (cs : Nat → ClassId) (g : Nat → Nat) (σ : Nat → Nat → Int32) (pre post : va_W) (f0_ : Nat → Int32) (e0_ : σ 0 = f0_) (n : Nat) (k : Nat) (hN : f0_ 0 = nI n) (hn : n ≤ 8) (hR : rgM n f0_) (hk : k ≤ 60) : CTv l yX0_passDays cX0_passDays 3 ({ frames := 4, cells := 0, slots := 0, locals := 92 }) ad D (tysW cs) (pre ++ (wK cs g f0_ ++ post)) [.ref (g 0), .int (nI k)] (pre ++ (wK cs g (daysF n f0_ k) ++ post)) := by
  subst e0_
  exact t_X0_passDays l ad D cs g σ pre post n k hN hn hR hk
theorem dX0_passDayByDraws_0 : decode cX0_passDayByDraws 0 = .ok (.aload_n 0, 1) := by decide +kernel
theorem dX0_passDayByDraws_1 : decode cX0_passDayByDraws 1 = .ok (.getfield 38, 3) := by decide +kernel
theorem dX0_passDayByDraws_4 : decode cX0_passDayByDraws 4 = .ok (.ifCond .le 38, 3) := by decide +kernel
theorem dX0_passDayByDraws_7 : decode cX0_passDayByDraws 7 = .ok (.aload_n 0, 1) := by decide +kernel
theorem dX0_passDayByDraws_8 : decode cX0_passDayByDraws 8 = .ok (.invokevirtual 84, 3) := by decide +kernel
theorem dX0_passDayByDraws_11 : decode cX0_passDayByDraws 11 = .ok (.aload_n 0, 1) := by decide +kernel
theorem dX0_passDayByDraws_12 : decode cX0_passDayByDraws 12 = .ok (.getfield 38, 3) := by decide +kernel
theorem dX0_passDayByDraws_15 : decode cX0_passDayByDraws 15 = .ok (.irem, 1) := by decide +kernel
theorem dX0_passDayByDraws_16 : decode cX0_passDayByDraws 16 = .ok (.istore_n 1, 1) := by decide +kernel
theorem dX0_passDayByDraws_17 : decode cX0_passDayByDraws 17 = .ok (.aload_n 0, 1) := by decide +kernel
theorem dX0_passDayByDraws_18 : decode cX0_passDayByDraws 18 = .ok (.invokevirtual 84, 3) := by decide +kernel
theorem dX0_passDayByDraws_21 : decode cX0_passDayByDraws 21 = .ok (.bipush 100, 2) := by decide +kernel
theorem dX0_passDayByDraws_23 : decode cX0_passDayByDraws 23 = .ok (.irem, 1) := by decide +kernel
theorem dX0_passDayByDraws_24 : decode cX0_passDayByDraws 24 = .ok (.aload_n 0, 1) := by decide +kernel
theorem dX0_passDayByDraws_25 : decode cX0_passDayByDraws 25 = .ok (.getfield 18, 3) := by decide +kernel
theorem dX0_passDayByDraws_28 : decode cX0_passDayByDraws 28 = .ok (.iconst 3, 1) := by decide +kernel
theorem dX0_passDayByDraws_29 : decode cX0_passDayByDraws 29 = .ok (.iaload, 1) := by decide +kernel
theorem dX0_passDayByDraws_30 : decode cX0_passDayByDraws 30 = .ok (.if_icmp .ge 12, 3) := by decide +kernel
theorem dX0_passDayByDraws_33 : decode cX0_passDayByDraws 33 = .ok (.aload_n 0, 1) := by decide +kernel
theorem dX0_passDayByDraws_34 : decode cX0_passDayByDraws 34 = .ok (.getfield 25, 3) := by decide +kernel
theorem dX0_passDayByDraws_37 : decode cX0_passDayByDraws 37 = .ok (.iconst 3, 1) := by decide +kernel
theorem dX0_passDayByDraws_38 : decode cX0_passDayByDraws 38 = .ok (.aaload, 1) := by decide +kernel
theorem dX0_passDayByDraws_39 : decode cX0_passDayByDraws 39 = .ok (.iload_n 1, 1) := by decide +kernel
theorem dX0_passDayByDraws_40 : decode cX0_passDayByDraws 40 = .ok (.iconst 0, 1) := by decide +kernel
theorem dX0_passDayByDraws_41 : decode cX0_passDayByDraws 41 = .ok (.iastore, 1) := by decide +kernel
theorem dX0_passDayByDraws_42 : decode cX0_passDayByDraws 42 = .ok (.aload_n 0, 1) := by decide +kernel
theorem dX0_passDayByDraws_43 : decode cX0_passDayByDraws 43 = .ok (.iconst 1, 1) := by decide +kernel
theorem dX0_passDayByDraws_44 : decode cX0_passDayByDraws 44 = .ok (.invokevirtual 88, 3) := by decide +kernel
theorem dX0_passDayByDraws_47 : decode cX0_passDayByDraws 47 = .ok (.return_, 1) := by decide +kernel
set_option maxHeartbeats 400000 in
set_option maxRecDepth 20000 in
theorem t_X0_passDayByDraws (l : Launch) (ad : Nat → Nat) (D : va_G) (cs : Nat → ClassId) (g : Nat → Nat) (σ : Nat → Nat → Int32) (pre post : va_W) (n : Nat) (hN : σ 0 0 = nI n) (hn : n ≤ 8) (hR : rgM n (σ 0)) : CTv l yX0_passDayByDraws cX0_passDayByDraws 2 ({ frames := 5, cells := 0, slots := 0, locals := 114 }) ad D (tysW cs) (pre ++ (wK cs g (σ 0) ++ post)) [.ref (g 0)] (pre ++ (wK cs g (dayD n (σ 0)) ++ post)) := by
  refine CTv.of (lv0 := [(0, .ref (g 0))]) (by decide) rfl (Nat.le_of_ble_eq_true rfl) (fun p e s m args below meth c A C hr hlk => ?_)
  have C : Cx p s m args c cX0_passDayByDraws 2 RX0 ad D (tysW cs) A := C
  refine r_aload_n (pc := 0) C 0 dX0_passDayByDraws_0 rfl rfl ?_
  refine kg_count (pc := 1) C fl_RX0_38 dX0_passDayByDraws_1 (σ 0 0) rfl ?_
  refine r_eqi (y := nI n) (hN) ?_
  refine r_if_le (pc := 4) C 42 dX0_passDayByDraws_4 (by decide) (fun c_1 => ?_) (fun c_1 => ?_)
  · skip
    have c_1 := nIc_le_t (a := n) (b := 0) (by omega) (by omega) c_1
    refine r_blk (blk' := wK cs g (dyS n (σ 0))) (by rw [show (dyS n (σ 0) : Nat → Int32) = σ 0 from Eq.symm (dyS_n (by omega))] <;> rfl) ?_
    refine r_aload_n (pc := 42) C 0 dX0_passDayByDraws_42 rfl rfl ?_
    refine r_iconst (pc := 43) C 1 dX0_passDayByDraws_43 (by decide) ?_
    refine rc_Vv (pc := 44) C (t_X0_passDays' l ad D cs g (fun _ => dyS n (σ 0)) pre post (dyS n (σ 0)) (rfl) n 1 (dyS_0 hN) hn (rg_dyS hR) (by omega)) mv_X0_passDays ml_RX0_88 rfl ⟨Nat.le_of_ble_eq_true rfl, Nat.le_of_ble_eq_true rfl⟩ ⟨rfl, rfl⟩ (q0 := 0) rfl rfl rfl rfl rfl rfl (Nat.le_of_ble_eq_true rfl) dX0_passDayByDraws_44 ?_
    have f_2 : daysF n (dyS n (σ 0)) 1 0 = nI n := daysF_0 (dyS_0 hN)
    refine r_blk (blk' := wK cs g (dayD n (σ 0))) (rfl) ?_
    exact r_vret (pc := 47) C hr hlk dX0_passDayByDraws_47 rfl
  · skip
    have c_1 := nIc_le_f (a := n) (b := 0) (by omega) (by omega) c_1
    have hd1 := drF_lt (σ 0)
    have hd2 := drF_lt (drw (σ 0))
    have hm := Nat.mod_lt (drF (σ 0)) (show 0 < n by omega)
    have hm2 := Nat.mod_lt (drF (drw (σ 0))) (show 0 < 100 by decide)
    refine r_aload_n (pc := 7) C 0 dX0_passDayByDraws_7 rfl rfl ?_
    refine rc_Vi (pc := 8) C (t_X0_draw' l ad D cs g (fun _ => σ 0) pre post (σ 0) (rfl) n hN hn) mv_X0_draw ml_RX0_84 rfl ⟨Nat.le_of_ble_eq_true rfl, Nat.le_of_ble_eq_true rfl⟩ ⟨rfl, rfl⟩ (q0 := 0) rfl rfl rfl rfl rfl rfl (Nat.le_of_ble_eq_true rfl) dX0_passDayByDraws_8 ?_
    have f_3 : drw (σ 0) 0 = nI n := drw_0 hN
    refine r_aload_n (pc := 11) C 0 dX0_passDayByDraws_11 rfl rfl ?_
    refine kg_count (pc := 12) C fl_RX0_38 dX0_passDayByDraws_12 (drw (σ 0) 0) rfl ?_
    refine r_eqi (y := nI n) (f_3) ?_
    refine r_irem (pc := 15) C dX0_passDayByDraws_15 (nI_ne0 (by omega) (by omega)) ?_
    refine r_eqi (y := nI (drF (σ 0) % n)) (pk_rem (by omega) (by omega) (by omega)) ?_
    refine r_istore_n (pc := 16) C [(1, .int (nI (drF (σ 0) % n))), (0, .ref (g 0))] dX0_passDayByDraws_16 rfl (by decide) rfl ?_
    refine r_aload_n (pc := 17) C 1 dX0_passDayByDraws_17 rfl rfl ?_
    refine rc_Vi (pc := 18) C (t_X0_draw' l ad D cs g (fun _ => drw (σ 0)) pre post (drw (σ 0)) (rfl) n f_3 hn) mv_X0_draw ml_RX0_84 rfl ⟨Nat.le_of_ble_eq_true rfl, Nat.le_of_ble_eq_true rfl⟩ ⟨rfl, rfl⟩ (q0 := 0) rfl rfl rfl rfl rfl rfl (Nat.le_of_ble_eq_true rfl) dX0_passDayByDraws_18 ?_
    have f_4 : drw (drw (σ 0)) 0 = nI n := drw_0 f_3
    refine r_bipush (pc := 21) C 100 dX0_passDayByDraws_21 (by decide) ?_
    refine r_irem (pc := 23) C dX0_passDayByDraws_23 (by decide) ?_
    refine r_eqi (y := nI (drF (drw (σ 0)) % 100)) (pk_rem (d := 100) (by omega) (by decide) (by decide)) ?_
    refine r_aload_n (pc := 24) C 1 dX0_passDayByDraws_24 rfl rfl ?_
    refine kg_laws (pc := 25) C fl_RX0_18 dX0_passDayByDraws_25 ?_
    refine r_iconst (pc := 28) C 3 dX0_passDayByDraws_28 (by decide) ?_
    refine kl_laws (pc := 29) C 3 (rfl) (by omega) dX0_passDayByDraws_29 (drw (drw (σ 0)) 7) rfl ?_
    refine r_icmp_ge (pc := 30) C 42 dX0_passDayByDraws_30 (by decide) (fun c_5 => ?_) (fun c_5 => ?_)
    · skip
      refine r_blk (blk' := wK cs g (dyS n (σ 0))) (by rw [show (dyS n (σ 0) : Nat → Int32) = drw (drw (σ 0)) from Eq.symm (dyK_t (by omega) ‹_›)] <;> rfl) ?_
      refine r_aload_n (pc := 42) C 1 dX0_passDayByDraws_42 rfl rfl ?_
      refine r_iconst (pc := 43) C 1 dX0_passDayByDraws_43 (by decide) ?_
      refine rc_Vv (pc := 44) C (t_X0_passDays' l ad D cs g (fun _ => dyS n (σ 0)) pre post (dyS n (σ 0)) (rfl) n 1 (dyS_0 hN) hn (rg_dyS hR) (by omega)) mv_X0_passDays ml_RX0_88 rfl ⟨Nat.le_of_ble_eq_true rfl, Nat.le_of_ble_eq_true rfl⟩ ⟨rfl, rfl⟩ (q0 := 0) rfl rfl rfl rfl rfl rfl (Nat.le_of_ble_eq_true rfl) dX0_passDayByDraws_44 ?_
      have f_6 : daysF n (dyS n (σ 0)) 1 0 = nI n := daysF_0 (dyS_0 hN)
      refine r_blk (blk' := wK cs g (dayD n (σ 0))) (rfl) ?_
      exact r_vret (pc := 47) C hr hlk dX0_passDayByDraws_47 rfl
    · skip
      refine r_aload_n (pc := 33) C 1 dX0_passDayByDraws_33 rfl rfl ?_
      refine kg_has (pc := 34) C fl_RX0_25 dX0_passDayByDraws_34 ?_
      refine r_iconst (pc := 37) C 3 dX0_passDayByDraws_37 (by decide) ?_
      refine ka_has (pc := 38) C 3 (rfl) (by omega) dX0_passDayByDraws_38 ?_
      refine r_iload_n (pc := 39) C 0 dX0_passDayByDraws_39 rfl rfl ?_
      refine r_iconst (pc := 40) C 0 dX0_passDayByDraws_40 (by decide) ?_
      refine ks_row (pc := 41) C 3 (by decide) (drF (σ 0) % n) (rfl) (by omega) dX0_passDayByDraws_41 (8 + 5 * (drF (σ 0) % n) + 3) rfl ?_
      refine r_blk (blk' := wK cs g (dyS n (σ 0))) (by rw [show (dyS n (σ 0) : Nat → Int32) = upd (drw (drw (σ 0))) (8 + 5 * (drF (σ 0) % n) + 3) 0 from Eq.symm (dyS_f (by omega) (Int32.not_le.mpr (Int32.not_le.mp ‹_›)))] <;> rfl) ?_
      refine r_aload_n (pc := 42) C 1 dX0_passDayByDraws_42 rfl rfl ?_
      refine r_iconst (pc := 43) C 1 dX0_passDayByDraws_43 (by decide) ?_
      refine rc_Vv (pc := 44) C (t_X0_passDays' l ad D cs g (fun _ => dyS n (σ 0)) pre post (dyS n (σ 0)) (rfl) n 1 (dyS_0 hN) hn (rg_dyS hR) (by omega)) mv_X0_passDays ml_RX0_88 rfl ⟨Nat.le_of_ble_eq_true rfl, Nat.le_of_ble_eq_true rfl⟩ ⟨rfl, rfl⟩ (q0 := 0) rfl rfl rfl rfl rfl rfl (Nat.le_of_ble_eq_true rfl) dX0_passDayByDraws_44 ?_
      have f_7 : daysF n (dyS n (σ 0)) 1 0 = nI n := daysF_0 (dyS_0 hN)
      refine r_blk (blk' := wK cs g (dayD n (σ 0))) (rfl) ?_
      exact r_vret (pc := 47) C hr hlk dX0_passDayByDraws_47 rfl
theorem t_X0_passDayByDraws' (l : Launch) (ad : Nat → Nat) (D : va_G) (cs : Nat → ClassId) (g : Nat → Nat) (σ : Nat → Nat → Int32) (pre post : va_W) (f0_ : Nat → Int32) (e0_ : σ 0 = f0_) (n : Nat) (hN : f0_ 0 = nI n) (hn : n ≤ 8) (hR : rgM n f0_) : CTv l yX0_passDayByDraws cX0_passDayByDraws 2 ({ frames := 5, cells := 0, slots := 0, locals := 114 }) ad D (tysW cs) (pre ++ (wK cs g f0_ ++ post)) [.ref (g 0)] (pre ++ (wK cs g (dayD n f0_) ++ post)) := by
  subst e0_
  exact t_X0_passDayByDraws l ad D cs g σ pre post n hN hn hR
theorem dX0_addPerson_0 : decode cX0_addPerson 0 = .ok (.aload_n 0, 1) := by decide +kernel
theorem dX0_addPerson_1 : decode cX0_addPerson 1 = .ok (.getfield 38, 3) := by decide +kernel
theorem dX0_addPerson_4 : decode cX0_addPerson 4 = .ok (.istore_n 2, 1) := by decide +kernel
theorem dX0_addPerson_5 : decode cX0_addPerson 5 = .ok (.aload_n 0, 1) := by decide +kernel
theorem dX0_addPerson_6 : decode cX0_addPerson 6 = .ok (.getfield 25, 3) := by decide +kernel
theorem dX0_addPerson_9 : decode cX0_addPerson 9 = .ok (.iconst 0, 1) := by decide +kernel
theorem dX0_addPerson_10 : decode cX0_addPerson 10 = .ok (.aaload, 1) := by decide +kernel
theorem dX0_addPerson_11 : decode cX0_addPerson 11 = .ok (.iload_n 2, 1) := by decide +kernel
theorem dX0_addPerson_12 : decode cX0_addPerson 12 = .ok (.iload_n 1, 1) := by decide +kernel
theorem dX0_addPerson_13 : decode cX0_addPerson 13 = .ok (.iastore, 1) := by decide +kernel
theorem dX0_addPerson_14 : decode cX0_addPerson 14 = .ok (.aload_n 0, 1) := by decide +kernel
theorem dX0_addPerson_15 : decode cX0_addPerson 15 = .ok (.getfield 25, 3) := by decide +kernel
theorem dX0_addPerson_18 : decode cX0_addPerson 18 = .ok (.iconst 1, 1) := by decide +kernel
theorem dX0_addPerson_19 : decode cX0_addPerson 19 = .ok (.aaload, 1) := by decide +kernel
theorem dX0_addPerson_20 : decode cX0_addPerson 20 = .ok (.iload_n 2, 1) := by decide +kernel
theorem dX0_addPerson_21 : decode cX0_addPerson 21 = .ok (.iconst 0, 1) := by decide +kernel
theorem dX0_addPerson_22 : decode cX0_addPerson 22 = .ok (.iastore, 1) := by decide +kernel
theorem dX0_addPerson_23 : decode cX0_addPerson 23 = .ok (.aload_n 0, 1) := by decide +kernel
theorem dX0_addPerson_24 : decode cX0_addPerson 24 = .ok (.getfield 25, 3) := by decide +kernel
theorem dX0_addPerson_27 : decode cX0_addPerson 27 = .ok (.iconst 2, 1) := by decide +kernel
theorem dX0_addPerson_28 : decode cX0_addPerson 28 = .ok (.aaload, 1) := by decide +kernel
theorem dX0_addPerson_29 : decode cX0_addPerson 29 = .ok (.iload_n 2, 1) := by decide +kernel
theorem dX0_addPerson_30 : decode cX0_addPerson 30 = .ok (.iconst 0, 1) := by decide +kernel
theorem dX0_addPerson_31 : decode cX0_addPerson 31 = .ok (.iastore, 1) := by decide +kernel
theorem dX0_addPerson_32 : decode cX0_addPerson 32 = .ok (.aload_n 0, 1) := by decide +kernel
theorem dX0_addPerson_33 : decode cX0_addPerson 33 = .ok (.getfield 25, 3) := by decide +kernel
theorem dX0_addPerson_36 : decode cX0_addPerson 36 = .ok (.iconst 3, 1) := by decide +kernel
theorem dX0_addPerson_37 : decode cX0_addPerson 37 = .ok (.aaload, 1) := by decide +kernel
theorem dX0_addPerson_38 : decode cX0_addPerson 38 = .ok (.iload_n 2, 1) := by decide +kernel
theorem dX0_addPerson_39 : decode cX0_addPerson 39 = .ok (.iconst 0, 1) := by decide +kernel
theorem dX0_addPerson_40 : decode cX0_addPerson 40 = .ok (.iastore, 1) := by decide +kernel
theorem dX0_addPerson_41 : decode cX0_addPerson 41 = .ok (.aload_n 0, 1) := by decide +kernel
theorem dX0_addPerson_42 : decode cX0_addPerson 42 = .ok (.getfield 25, 3) := by decide +kernel
theorem dX0_addPerson_45 : decode cX0_addPerson 45 = .ok (.iconst 4, 1) := by decide +kernel
theorem dX0_addPerson_46 : decode cX0_addPerson 46 = .ok (.aaload, 1) := by decide +kernel
theorem dX0_addPerson_47 : decode cX0_addPerson 47 = .ok (.iload_n 2, 1) := by decide +kernel
theorem dX0_addPerson_48 : decode cX0_addPerson 48 = .ok (.bipush 50, 2) := by decide +kernel
theorem dX0_addPerson_50 : decode cX0_addPerson 50 = .ok (.iastore, 1) := by decide +kernel
theorem dX0_addPerson_51 : decode cX0_addPerson 51 = .ok (.aload_n 0, 1) := by decide +kernel
theorem dX0_addPerson_52 : decode cX0_addPerson 52 = .ok (.dup, 1) := by decide +kernel
theorem dX0_addPerson_53 : decode cX0_addPerson 53 = .ok (.getfield 38, 3) := by decide +kernel
theorem dX0_addPerson_56 : decode cX0_addPerson 56 = .ok (.iconst 1, 1) := by decide +kernel
theorem dX0_addPerson_57 : decode cX0_addPerson 57 = .ok (.iadd, 1) := by decide +kernel
theorem dX0_addPerson_58 : decode cX0_addPerson 58 = .ok (.putfield 38, 3) := by decide +kernel
theorem dX0_addPerson_61 : decode cX0_addPerson 61 = .ok (.iload_n 2, 1) := by decide +kernel
theorem dX0_addPerson_62 : decode cX0_addPerson 62 = .ok (.ireturn, 1) := by decide +kernel
set_option maxHeartbeats 400000 in
set_option maxRecDepth 20000 in
theorem t_X0_addPerson (l : Launch) (ad : Nat → Nat) (D : va_G) (cs : Nat → ClassId) (g : Nat → Nat) (σ : Nat → Nat → Int32) (pre post : va_W) (n : Nat) (k : Int32) (hN : σ 0 0 = nI n) (hn : n ≤ 8) (hl : n < 8) : CTi l yX0_addPerson cX0_addPerson 3 .int ({ frames := 0, cells := 0, slots := 0, locals := 0 }) ad D (tysW cs) (pre ++ (wK cs g (σ 0) ++ post)) [.ref (g 0), .int k] (nI n) (pre ++ (wK cs g (perC n (σ 0) k) ++ post)) := by
  refine CTi.of (lv0 := [(0, .ref (g 0)), (1, .int k)]) (by decide) rfl (Nat.le_of_ble_eq_true rfl) (fun p e s m args below meth c A C hr hlk => ?_)
  have C : Cx p s m args c cX0_addPerson 3 RX0 ad D (tysW cs) A := C
  refine r_aload_n (pc := 0) C 0 dX0_addPerson_0 rfl rfl ?_
  refine kg_count (pc := 1) C fl_RX0_38 dX0_addPerson_1 (σ 0 0) rfl ?_
  refine r_eqi (y := nI n) (hN) ?_
  refine r_istore_n (pc := 4) C [(2, .int (nI n)), (0, .ref (g 0)), (1, .int k)] dX0_addPerson_4 rfl (by decide) rfl ?_
  refine r_aload_n (pc := 5) C 1 dX0_addPerson_5 rfl rfl ?_
  refine kg_has (pc := 6) C fl_RX0_25 dX0_addPerson_6 ?_
  refine r_iconst (pc := 9) C 0 dX0_addPerson_9 (by decide) ?_
  refine ka_has (pc := 10) C 0 (rfl) (by omega) dX0_addPerson_10 ?_
  refine r_iload_n (pc := 11) C 0 dX0_addPerson_11 rfl rfl ?_
  refine r_iload_n (pc := 12) C 2 dX0_addPerson_12 rfl rfl ?_
  refine ks_row (pc := 13) C 0 (by decide) n (rfl) (by omega) dX0_addPerson_13 (8 + 5 * n) rfl ?_
  refine r_aload_n (pc := 14) C 1 dX0_addPerson_14 rfl rfl ?_
  refine kg_has (pc := 15) C fl_RX0_25 dX0_addPerson_15 ?_
  refine r_iconst (pc := 18) C 1 dX0_addPerson_18 (by decide) ?_
  refine ka_has (pc := 19) C 1 (rfl) (by omega) dX0_addPerson_19 ?_
  refine r_iload_n (pc := 20) C 0 dX0_addPerson_20 rfl rfl ?_
  refine r_iconst (pc := 21) C 0 dX0_addPerson_21 (by decide) ?_
  refine ks_row (pc := 22) C 1 (by decide) n (rfl) (by omega) dX0_addPerson_22 (8 + 5 * n + 1) rfl ?_
  refine r_aload_n (pc := 23) C 1 dX0_addPerson_23 rfl rfl ?_
  refine kg_has (pc := 24) C fl_RX0_25 dX0_addPerson_24 ?_
  refine r_iconst (pc := 27) C 2 dX0_addPerson_27 (by decide) ?_
  refine ka_has (pc := 28) C 2 (rfl) (by omega) dX0_addPerson_28 ?_
  refine r_iload_n (pc := 29) C 0 dX0_addPerson_29 rfl rfl ?_
  refine r_iconst (pc := 30) C 0 dX0_addPerson_30 (by decide) ?_
  refine ks_row (pc := 31) C 2 (by decide) n (rfl) (by omega) dX0_addPerson_31 (8 + 5 * n + 2) rfl ?_
  refine r_aload_n (pc := 32) C 1 dX0_addPerson_32 rfl rfl ?_
  refine kg_has (pc := 33) C fl_RX0_25 dX0_addPerson_33 ?_
  refine r_iconst (pc := 36) C 3 dX0_addPerson_36 (by decide) ?_
  refine ka_has (pc := 37) C 3 (rfl) (by omega) dX0_addPerson_37 ?_
  refine r_iload_n (pc := 38) C 0 dX0_addPerson_38 rfl rfl ?_
  refine r_iconst (pc := 39) C 0 dX0_addPerson_39 (by decide) ?_
  refine ks_row (pc := 40) C 3 (by decide) n (rfl) (by omega) dX0_addPerson_40 (8 + 5 * n + 3) rfl ?_
  refine r_aload_n (pc := 41) C 1 dX0_addPerson_41 rfl rfl ?_
  refine kg_has (pc := 42) C fl_RX0_25 dX0_addPerson_42 ?_
  refine r_iconst (pc := 45) C 4 dX0_addPerson_45 (by decide) ?_
  refine ka_has (pc := 46) C 4 (rfl) (by omega) dX0_addPerson_46 ?_
  refine r_iload_n (pc := 47) C 0 dX0_addPerson_47 rfl rfl ?_
  refine r_bipush (pc := 48) C 50 dX0_addPerson_48 (by decide) ?_
  refine ks_row (pc := 50) C 4 (by decide) n (rfl) (by omega) dX0_addPerson_50 (8 + 5 * n + 4) rfl ?_
  refine r_aload_n (pc := 51) C 1 dX0_addPerson_51 rfl rfl ?_
  refine r_dup (pc := 52) C dX0_addPerson_52 rfl ?_
  refine kg_count (pc := 53) C fl_RX0_38 dX0_addPerson_53 (upd (upd (upd (upd (upd (σ 0) (8 + 5 * n) k) (8 + 5 * n + 1) 0) (8 + 5 * n + 2) 0) (8 + 5 * n + 3) 0) (8 + 5 * n + 4) 50 0) rfl ?_
  refine r_eqi (y := nI n) ((upd_0 (by omega) (upd_0 (by omega) (upd_0 (by omega) (upd_0 (by omega) (upd_0 (by omega) hN)))))) ?_
  refine r_iconst (pc := 56) C 1 dX0_addPerson_56 (by decide) ?_
  refine r_iadd (pc := 57) C dX0_addPerson_57 ?_
  refine r_eqi (y := nI (n + 1)) (nI_add n 1) ?_
  refine kp_count (pc := 58) C fl_RX0_38 dX0_addPerson_58 ?_
  refine r_iload_n (pc := 61) C 0 dX0_addPerson_61 rfl rfl ?_
  exact r_iret (pc := 62) C hr hlk dX0_addPerson_62 rfl rfl rfl
theorem t_X0_addPerson' (l : Launch) (ad : Nat → Nat) (D : va_G) (cs : Nat → ClassId) (g : Nat → Nat) (σ : Nat → Nat → Int32) (pre post : va_W) (f0_ : Nat → Int32) (e0_ : σ 0 = f0_) (n : Nat) (k : Int32) (hN : f0_ 0 = nI n) (hn : n ≤ 8) (hl : n < 8) : CTi l yX0_addPerson cX0_addPerson 3 .int ({ frames := 0, cells := 0, slots := 0, locals := 0 }) ad D (tysW cs) (pre ++ (wK cs g f0_ ++ post)) [.ref (g 0), .int k] (nI n) (pre ++ (wK cs g (perC n f0_ k) ++ post)) := by
  subst e0_
  exact t_X0_addPerson l ad D cs g σ pre post n k hN hn hl
theorem dX0_howManyHaveCoins_0 : decode cX0_howManyHaveCoins 0 = .ok (.iconst 0, 1) := by decide +kernel
theorem dX0_howManyHaveCoins_1 : decode cX0_howManyHaveCoins 1 = .ok (.istore_n 1, 1) := by decide +kernel
theorem dX0_howManyHaveCoins_2 : decode cX0_howManyHaveCoins 2 = .ok (.iconst 0, 1) := by decide +kernel
theorem dX0_howManyHaveCoins_3 : decode cX0_howManyHaveCoins 3 = .ok (.istore_n 2, 1) := by decide +kernel
theorem dX0_howManyHaveCoins_4 : decode cX0_howManyHaveCoins 4 = .ok (.iload_n 2, 1) := by decide +kernel
theorem dX0_howManyHaveCoins_5 : decode cX0_howManyHaveCoins 5 = .ok (.aload_n 0, 1) := by decide +kernel
theorem dX0_howManyHaveCoins_6 : decode cX0_howManyHaveCoins 6 = .ok (.getfield 38, 3) := by decide +kernel
theorem dX0_howManyHaveCoins_9 : decode cX0_howManyHaveCoins 9 = .ok (.if_icmp .ge 28, 3) := by decide +kernel
theorem dX0_howManyHaveCoins_12 : decode cX0_howManyHaveCoins 12 = .ok (.iload_n 1, 1) := by decide +kernel
theorem dX0_howManyHaveCoins_13 : decode cX0_howManyHaveCoins 13 = .ok (.aload_n 0, 1) := by decide +kernel
theorem dX0_howManyHaveCoins_14 : decode cX0_howManyHaveCoins 14 = .ok (.getfield 25, 3) := by decide +kernel
theorem dX0_howManyHaveCoins_17 : decode cX0_howManyHaveCoins 17 = .ok (.iconst 4, 1) := by decide +kernel
theorem dX0_howManyHaveCoins_18 : decode cX0_howManyHaveCoins 18 = .ok (.aaload, 1) := by decide +kernel
theorem dX0_howManyHaveCoins_19 : decode cX0_howManyHaveCoins 19 = .ok (.iload_n 2, 1) := by decide +kernel
theorem dX0_howManyHaveCoins_20 : decode cX0_howManyHaveCoins 20 = .ok (.iaload, 1) := by decide +kernel
theorem dX0_howManyHaveCoins_21 : decode cX0_howManyHaveCoins 21 = .ok (.ifCond .le 7, 3) := by decide +kernel
theorem dX0_howManyHaveCoins_24 : decode cX0_howManyHaveCoins 24 = .ok (.iconst 1, 1) := by decide +kernel
theorem dX0_howManyHaveCoins_25 : decode cX0_howManyHaveCoins 25 = .ok (.goto 4, 3) := by decide +kernel
theorem dX0_howManyHaveCoins_28 : decode cX0_howManyHaveCoins 28 = .ok (.iconst 0, 1) := by decide +kernel
theorem dX0_howManyHaveCoins_29 : decode cX0_howManyHaveCoins 29 = .ok (.iadd, 1) := by decide +kernel
theorem dX0_howManyHaveCoins_30 : decode cX0_howManyHaveCoins 30 = .ok (.istore_n 1, 1) := by decide +kernel
theorem dX0_howManyHaveCoins_31 : decode cX0_howManyHaveCoins 31 = .ok (.iinc 2 1, 3) := by decide +kernel
theorem dX0_howManyHaveCoins_34 : decode cX0_howManyHaveCoins 34 = .ok (.goto (-30), 3) := by decide +kernel
theorem dX0_howManyHaveCoins_37 : decode cX0_howManyHaveCoins 37 = .ok (.iload_n 1, 1) := by decide +kernel
theorem dX0_howManyHaveCoins_38 : decode cX0_howManyHaveCoins 38 = .ok (.ireturn, 1) := by decide +kernel
set_option maxHeartbeats 400000 in
set_option maxRecDepth 20000 in
theorem t_X0_howManyHaveCoins (l : Launch) (ad : Nat → Nat) (D : va_G) (cs : Nat → ClassId) (g : Nat → Nat) (σ : Nat → Nat → Int32) (pre post : va_W) (n : Nat) (hN : σ 0 0 = nI n) (hn : n ≤ 8) : CTi l yX0_howManyHaveCoins cX0_howManyHaveCoins 3 .int ({ frames := 0, cells := 0, slots := 0, locals := 0 }) ad D (tysW cs) (pre ++ (wK cs g (σ 0) ++ post)) [.ref (g 0)] (coN (σ 0) n) (pre ++ (wK cs g (σ 0) ++ post)) := by
  refine CTi.of (lv0 := [(0, .ref (g 0))]) (by decide) rfl (Nat.le_of_ble_eq_true rfl) (fun p e s m args below meth c A C hr hlk => ?_)
  have C : Cx p s m args c cX0_howManyHaveCoins 3 RX0 ad D (tysW cs) A := C
  refine r_iconst (pc := 0) C 0 dX0_howManyHaveCoins_0 (by decide) ?_
  refine r_istore_n (pc := 1) C [(1, .int 0), (0, .ref (g 0))] dX0_howManyHaveCoins_1 rfl (by decide) rfl ?_
  refine r_iconst (pc := 2) C 0 dX0_howManyHaveCoins_2 (by decide) ?_
  refine r_istore_n (pc := 3) C [(2, .int 0), (1, .int 0), (0, .ref (g 0))] dX0_howManyHaveCoins_3 rfl (by decide) rfl ?_
  refine r_pick (lv' := [(0, .ref (g 0)), (1, .int 0), (2, .int 0)]) [2, 1, 0] rfl ?_
  refine r_lv (lv' := [(0, .ref (g 0)), (1, .int (coN (σ 0) 0)), (2, .int 0)]) (rfl) ?_
  refine r_loop (blkf := fun i => wK cs g (σ 0)) (lvf := fun i => [(0, .ref (g 0)), (1, .int (coN (σ 0) i)), (2, .int (nI i))]) (fun i => True) n 0 (by omega) (trivial) (fun i h_i _ ih_4 => ?_)
  show VX p l e _ s m args below meth c _ D A 3 pre (wK cs g (σ 0)) post 4 [(0, .ref (g 0)), (1, .int (coN (σ 0) i)), (2, .int (nI i))] []
  refine r_iload_n (pc := 4) C 2 dX0_howManyHaveCoins_4 rfl rfl ?_
  refine r_aload_n (pc := 5) C 0 dX0_howManyHaveCoins_5 rfl rfl ?_
  refine kg_count (pc := 6) C fl_RX0_38 dX0_howManyHaveCoins_6 (σ 0 0) rfl ?_
  refine r_eqi (y := nI n) (hN) ?_
  refine r_icmp_ge (pc := 9) C 37 dX0_howManyHaveCoins_9 (by decide) (fun c_1 => ?_) (fun c_1 => ?_)
  · skip
    have c_1 := nIc_ge_t (a := i) (b := n) (by omega) (by omega) c_1
    obtain rfl : n = i := by omega
    refine r_iload_n (pc := 37) C 1 dX0_howManyHaveCoins_37 rfl rfl ?_
    exact r_iret (pc := 38) C hr hlk dX0_howManyHaveCoins_38 rfl rfl rfl
  · skip
    have c_1 := nIc_ge_f (a := i) (b := n) (by omega) (by omega) c_1
    refine r_iload_n (pc := 12) C 1 dX0_howManyHaveCoins_12 rfl rfl ?_
    refine r_aload_n (pc := 13) C 0 dX0_howManyHaveCoins_13 rfl rfl ?_
    refine kg_has (pc := 14) C fl_RX0_25 dX0_howManyHaveCoins_14 ?_
    refine r_iconst (pc := 17) C 4 dX0_howManyHaveCoins_17 (by decide) ?_
    refine ka_has (pc := 18) C 4 (rfl) (by omega) dX0_howManyHaveCoins_18 ?_
    refine r_iload_n (pc := 19) C 2 dX0_howManyHaveCoins_19 rfl rfl ?_
    refine kl_row (pc := 20) C 4 (by decide) i (rfl) (by omega) dX0_howManyHaveCoins_20 (σ 0 (8 + 5 * i + 4)) rfl ?_
    refine r_if_le (pc := 21) C 28 dX0_howManyHaveCoins_21 (by decide) (fun c_2 => ?_) (fun c_2 => ?_)
    · skip
      refine r_iconst (pc := 28) C 0 dX0_howManyHaveCoins_28 (by decide) ?_
      refine r_iadd (pc := 29) C dX0_howManyHaveCoins_29 ?_
      refine r_istore_n (pc := 30) C [(1, .int ((coN (σ 0) i) + 0)), (0, .ref (g 0)), (2, .int (nI i))] dX0_howManyHaveCoins_30 rfl (by decide) rfl ?_
      refine r_iinc (pc := 31) C (nI (i + 1)) 2 [(2, .int (nI (i + 1))), (1, .int ((coN (σ 0) i) + 0)), (0, .ref (g 0))] dX0_howManyHaveCoins_31 rfl (nI_1 _) (by decide) rfl ?_
      refine r_goto (pc := 34) C 4 dX0_howManyHaveCoins_34 (by decide) ?_
      refine r_pick (lv' := [(0, .ref (g 0)), (1, .int ((coN (σ 0) i) + 0)), (2, .int (nI (i + 1)))]) [2, 1, 0] rfl ?_
      refine r_lv (lv' := [(0, .ref (g 0)), (1, .int (coN (σ 0) (i + 1))), (2, .int (nI (i + 1)))]) (lvc rfl (lvc (congrArg Value.int (show ((coN (σ 0) i) + 0 : Int32) = coN (σ 0) (i + 1) from (by simp [coN, *]))) (lvc rfl rfl))) ?_
      exact ih_4 (by omega) (trivial)
    · skip
      refine r_iconst (pc := 24) C 1 dX0_howManyHaveCoins_24 (by decide) ?_
      refine r_goto (pc := 25) C 29 dX0_howManyHaveCoins_25 (by decide) ?_
      refine r_iadd (pc := 29) C dX0_howManyHaveCoins_29 ?_
      refine r_istore_n (pc := 30) C [(1, .int ((coN (σ 0) i) + 1)), (0, .ref (g 0)), (2, .int (nI i))] dX0_howManyHaveCoins_30 rfl (by decide) rfl ?_
      refine r_iinc (pc := 31) C (nI (i + 1)) 2 [(2, .int (nI (i + 1))), (1, .int ((coN (σ 0) i) + 1)), (0, .ref (g 0))] dX0_howManyHaveCoins_31 rfl (nI_1 _) (by decide) rfl ?_
      refine r_goto (pc := 34) C 4 dX0_howManyHaveCoins_34 (by decide) ?_
      refine r_pick (lv' := [(0, .ref (g 0)), (1, .int ((coN (σ 0) i) + 1)), (2, .int (nI (i + 1)))]) [2, 1, 0] rfl ?_
      refine r_lv (lv' := [(0, .ref (g 0)), (1, .int (coN (σ 0) (i + 1))), (2, .int (nI (i + 1)))]) (lvc rfl (lvc (congrArg Value.int (show ((coN (σ 0) i) + 1 : Int32) = coN (σ 0) (i + 1) from (by simp [coN, *]))) (lvc rfl rfl))) ?_
      exact ih_4 (by omega) (trivial)
theorem t_X0_howManyHaveCoins' (l : Launch) (ad : Nat → Nat) (D : va_G) (cs : Nat → ClassId) (g : Nat → Nat) (σ : Nat → Nat → Int32) (pre post : va_W) (f0_ : Nat → Int32) (e0_ : σ 0 = f0_) (n : Nat) (hN : f0_ 0 = nI n) (hn : n ≤ 8) : CTi l yX0_howManyHaveCoins cX0_howManyHaveCoins 3 .int ({ frames := 0, cells := 0, slots := 0, locals := 0 }) ad D (tysW cs) (pre ++ (wK cs g f0_ ++ post)) [.ref (g 0)] (coN f0_ n) (pre ++ (wK cs g f0_ ++ post)) := by
  subst e0_
  exact t_X0_howManyHaveCoins l ad D cs g σ pre post n hN hn
theorem dX0_howManyWear_0 : decode cX0_howManyWear 0 = .ok (.iconst 0, 1) := by decide +kernel
theorem dX0_howManyWear_1 : decode cX0_howManyWear 1 = .ok (.istore_n 1, 1) := by decide +kernel
theorem dX0_howManyWear_2 : decode cX0_howManyWear 2 = .ok (.iconst 0, 1) := by decide +kernel
theorem dX0_howManyWear_3 : decode cX0_howManyWear 3 = .ok (.istore_n 2, 1) := by decide +kernel
theorem dX0_howManyWear_4 : decode cX0_howManyWear 4 = .ok (.iload_n 2, 1) := by decide +kernel
theorem dX0_howManyWear_5 : decode cX0_howManyWear 5 = .ok (.aload_n 0, 1) := by decide +kernel
theorem dX0_howManyWear_6 : decode cX0_howManyWear 6 = .ok (.getfield 38, 3) := by decide +kernel
theorem dX0_howManyWear_9 : decode cX0_howManyWear 9 = .ok (.if_icmp .ge 25, 3) := by decide +kernel
theorem dX0_howManyWear_12 : decode cX0_howManyWear 12 = .ok (.iload_n 1, 1) := by decide +kernel
theorem dX0_howManyWear_13 : decode cX0_howManyWear 13 = .ok (.aload_n 0, 1) := by decide +kernel
theorem dX0_howManyWear_14 : decode cX0_howManyWear 14 = .ok (.iload_n 2, 1) := by decide +kernel
theorem dX0_howManyWear_15 : decode cX0_howManyWear 15 = .ok (.invokevirtual 55, 3) := by decide +kernel
theorem dX0_howManyWear_18 : decode cX0_howManyWear 18 = .ok (.ifCond .le 7, 3) := by decide +kernel
theorem dX0_howManyWear_21 : decode cX0_howManyWear 21 = .ok (.iconst 1, 1) := by decide +kernel
theorem dX0_howManyWear_22 : decode cX0_howManyWear 22 = .ok (.goto 4, 3) := by decide +kernel
theorem dX0_howManyWear_25 : decode cX0_howManyWear 25 = .ok (.iconst 0, 1) := by decide +kernel
theorem dX0_howManyWear_26 : decode cX0_howManyWear 26 = .ok (.iadd, 1) := by decide +kernel
theorem dX0_howManyWear_27 : decode cX0_howManyWear 27 = .ok (.istore_n 1, 1) := by decide +kernel
theorem dX0_howManyWear_28 : decode cX0_howManyWear 28 = .ok (.iinc 2 1, 3) := by decide +kernel
theorem dX0_howManyWear_31 : decode cX0_howManyWear 31 = .ok (.goto (-27), 3) := by decide +kernel
theorem dX0_howManyWear_34 : decode cX0_howManyWear 34 = .ok (.iload_n 1, 1) := by decide +kernel
theorem dX0_howManyWear_35 : decode cX0_howManyWear 35 = .ok (.ireturn, 1) := by decide +kernel
set_option maxHeartbeats 400000 in
set_option maxRecDepth 20000 in
theorem t_X0_howManyWear (l : Launch) (ad : Nat → Nat) (D : va_G) (cs : Nat → ClassId) (g : Nat → Nat) (σ : Nat → Nat → Int32) (pre post : va_W) (n : Nat) (hN : σ 0 0 = nI n) (hn : n ≤ 8) (hR : rgM n (σ 0)) : CTi l yX0_howManyWear cX0_howManyWear 3 .int ({ frames := 1, cells := 0, slots := 0, locals := 22 }) ad D (tysW cs) (pre ++ (wK cs g (σ 0) ++ post)) [.ref (g 0)] (weN (σ 0) n) (pre ++ (wK cs g (σ 0) ++ post)) := by
  refine CTi.of (lv0 := [(0, .ref (g 0))]) (by decide) rfl (Nat.le_of_ble_eq_true rfl) (fun p e s m args below meth c A C hr hlk => ?_)
  have C : Cx p s m args c cX0_howManyWear 3 RX0 ad D (tysW cs) A := C
  refine r_iconst (pc := 0) C 0 dX0_howManyWear_0 (by decide) ?_
  refine r_istore_n (pc := 1) C [(1, .int 0), (0, .ref (g 0))] dX0_howManyWear_1 rfl (by decide) rfl ?_
  refine r_iconst (pc := 2) C 0 dX0_howManyWear_2 (by decide) ?_
  refine r_istore_n (pc := 3) C [(2, .int 0), (1, .int 0), (0, .ref (g 0))] dX0_howManyWear_3 rfl (by decide) rfl ?_
  refine r_pick (lv' := [(0, .ref (g 0)), (1, .int 0), (2, .int 0)]) [2, 1, 0] rfl ?_
  refine r_lv (lv' := [(0, .ref (g 0)), (1, .int (weN (σ 0) 0)), (2, .int 0)]) (rfl) ?_
  refine r_loop (blkf := fun i => wK cs g (σ 0)) (lvf := fun i => [(0, .ref (g 0)), (1, .int (weN (σ 0) i)), (2, .int (nI i))]) (fun i => True) n 0 (by omega) (trivial) (fun i h_i _ ih_4 => ?_)
  show VX p l e _ s m args below meth c _ D A 3 pre (wK cs g (σ 0)) post 4 [(0, .ref (g 0)), (1, .int (weN (σ 0) i)), (2, .int (nI i))] []
  refine r_iload_n (pc := 4) C 2 dX0_howManyWear_4 rfl rfl ?_
  refine r_aload_n (pc := 5) C 0 dX0_howManyWear_5 rfl rfl ?_
  refine kg_count (pc := 6) C fl_RX0_38 dX0_howManyWear_6 (σ 0 0) rfl ?_
  refine r_eqi (y := nI n) (hN) ?_
  refine r_icmp_ge (pc := 9) C 34 dX0_howManyWear_9 (by decide) (fun c_1 => ?_) (fun c_1 => ?_)
  · skip
    have c_1 := nIc_ge_t (a := i) (b := n) (by omega) (by omega) c_1
    obtain rfl : n = i := by omega
    refine r_iload_n (pc := 34) C 1 dX0_howManyWear_34 rfl rfl ?_
    exact r_iret (pc := 35) C hr hlk dX0_howManyWear_35 rfl rfl rfl
  · skip
    have c_1 := nIc_ge_f (a := i) (b := n) (by omega) (by omega) c_1
    refine r_iload_n (pc := 12) C 1 dX0_howManyWear_12 rfl rfl ?_
    refine r_aload_n (pc := 13) C 0 dX0_howManyWear_13 rfl rfl ?_
    refine r_iload_n (pc := 14) C 2 dX0_howManyWear_14 rfl rfl ?_
    refine rc_Vi (pc := 15) C (t_X0_wears' l ad D cs g (fun _ => σ 0) pre post (σ 0) (rfl) n i hN hn (by omega) hR) mv_X0_wears ml_RX0_55 rfl ⟨Nat.le_of_ble_eq_true rfl, Nat.le_of_ble_eq_true rfl⟩ ⟨rfl, rfl⟩ (q0 := 0) rfl rfl rfl rfl rfl rfl (Nat.le_of_ble_eq_true rfl) dX0_howManyWear_15 ?_
    refine r_if_le (pc := 18) C 25 dX0_howManyWear_18 (by decide) (fun c_2 => ?_) (fun c_2 => ?_)
    · skip
      refine r_iconst (pc := 25) C 0 dX0_howManyWear_25 (by decide) ?_
      refine r_iadd (pc := 26) C dX0_howManyWear_26 ?_
      refine r_istore_n (pc := 27) C [(1, .int ((weN (σ 0) i) + 0)), (0, .ref (g 0)), (2, .int (nI i))] dX0_howManyWear_27 rfl (by decide) rfl ?_
      refine r_iinc (pc := 28) C (nI (i + 1)) 2 [(2, .int (nI (i + 1))), (1, .int ((weN (σ 0) i) + 0)), (0, .ref (g 0))] dX0_howManyWear_28 rfl (nI_1 _) (by decide) rfl ?_
      refine r_goto (pc := 31) C 4 dX0_howManyWear_31 (by decide) ?_
      refine r_pick (lv' := [(0, .ref (g 0)), (1, .int ((weN (σ 0) i) + 0)), (2, .int (nI (i + 1)))]) [2, 1, 0] rfl ?_
      refine r_lv (lv' := [(0, .ref (g 0)), (1, .int (weN (σ 0) (i + 1))), (2, .int (nI (i + 1)))]) (lvc rfl (lvc (congrArg Value.int (show ((weN (σ 0) i) + 0 : Int32) = weN (σ 0) (i + 1) from (by simp [weN, *]))) (lvc rfl rfl))) ?_
      exact ih_4 (by omega) (trivial)
    · skip
      refine r_iconst (pc := 21) C 1 dX0_howManyWear_21 (by decide) ?_
      refine r_goto (pc := 22) C 26 dX0_howManyWear_22 (by decide) ?_
      refine r_iadd (pc := 26) C dX0_howManyWear_26 ?_
      refine r_istore_n (pc := 27) C [(1, .int ((weN (σ 0) i) + 1)), (0, .ref (g 0)), (2, .int (nI i))] dX0_howManyWear_27 rfl (by decide) rfl ?_
      refine r_iinc (pc := 28) C (nI (i + 1)) 2 [(2, .int (nI (i + 1))), (1, .int ((weN (σ 0) i) + 1)), (0, .ref (g 0))] dX0_howManyWear_28 rfl (nI_1 _) (by decide) rfl ?_
      refine r_goto (pc := 31) C 4 dX0_howManyWear_31 (by decide) ?_
      refine r_pick (lv' := [(0, .ref (g 0)), (1, .int ((weN (σ 0) i) + 1)), (2, .int (nI (i + 1)))]) [2, 1, 0] rfl ?_
      refine r_lv (lv' := [(0, .ref (g 0)), (1, .int (weN (σ 0) (i + 1))), (2, .int (nI (i + 1)))]) (lvc rfl (lvc (congrArg Value.int (show ((weN (σ 0) i) + 1 : Int32) = weN (σ 0) (i + 1) from (by simp [weN, *]))) (lvc rfl rfl))) ?_
      exact ih_4 (by omega) (trivial)
theorem t_X0_howManyWear' (l : Launch) (ad : Nat → Nat) (D : va_G) (cs : Nat → ClassId) (g : Nat → Nat) (σ : Nat → Nat → Int32) (pre post : va_W) (f0_ : Nat → Int32) (e0_ : σ 0 = f0_) (n : Nat) (hN : f0_ 0 = nI n) (hn : n ≤ 8) (hR : rgM n f0_) : CTi l yX0_howManyWear cX0_howManyWear 3 .int ({ frames := 1, cells := 0, slots := 0, locals := 22 }) ad D (tysW cs) (pre ++ (wK cs g f0_ ++ post)) [.ref (g 0)] (weN f0_ n) (pre ++ (wK cs g f0_ ++ post)) := by
  subst e0_
  exact t_X0_howManyWear l ad D cs g σ pre post n hN hn hR
theorem dX0_isSo_0 : decode cX0_isSo 0 = .ok (.iload_n 1, 1) := by decide +kernel
theorem dX0_isSo_1 : decode cX0_isSo 1 = .ok (.lookupswitch 54 #[(0, 27), (1, 33)], 27) := by decide +kernel
theorem dX0_isSo_28 : decode cX0_isSo 28 = .ok (.aload_n 0, 1) := by decide +kernel
theorem dX0_isSo_29 : decode cX0_isSo 29 = .ok (.iload_n 2, 1) := by decide +kernel
theorem dX0_isSo_30 : decode cX0_isSo 30 = .ok (.invokevirtual 93, 3) := by decide +kernel
theorem dX0_isSo_33 : decode cX0_isSo 33 = .ok (.ireturn, 1) := by decide +kernel
theorem dX0_isSo_34 : decode cX0_isSo 34 = .ok (.aload_n 0, 1) := by decide +kernel
theorem dX0_isSo_35 : decode cX0_isSo 35 = .ok (.invokevirtual 96, 3) := by decide +kernel
theorem dX0_isSo_38 : decode cX0_isSo 38 = .ok (.iconst 1, 1) := by decide +kernel
theorem dX0_isSo_39 : decode cX0_isSo 39 = .ok (.aload_n 0, 1) := by decide +kernel
theorem dX0_isSo_40 : decode cX0_isSo 40 = .ok (.getfield 38, 3) := by decide +kernel
theorem dX0_isSo_43 : decode cX0_isSo 43 = .ok (.ishl, 1) := by decide +kernel
theorem dX0_isSo_44 : decode cX0_isSo 44 = .ok (.iconst 1, 1) := by decide +kernel
theorem dX0_isSo_45 : decode cX0_isSo 45 = .ok (.isub, 1) := by decide +kernel
theorem dX0_isSo_46 : decode cX0_isSo 46 = .ok (.if_icmp .ne 7, 3) := by decide +kernel
theorem dX0_isSo_49 : decode cX0_isSo 49 = .ok (.iconst 1, 1) := by decide +kernel
theorem dX0_isSo_50 : decode cX0_isSo 50 = .ok (.goto 4, 3) := by decide +kernel
theorem dX0_isSo_53 : decode cX0_isSo 53 = .ok (.iconst 0, 1) := by decide +kernel
theorem dX0_isSo_54 : decode cX0_isSo 54 = .ok (.ireturn, 1) := by decide +kernel
theorem dX0_isSo_55 : decode cX0_isSo 55 = .ok (.aload_n 0, 1) := by decide +kernel
theorem dX0_isSo_56 : decode cX0_isSo 56 = .ok (.getfield 25, 3) := by decide +kernel
theorem dX0_isSo_59 : decode cX0_isSo 59 = .ok (.iconst 4, 1) := by decide +kernel
theorem dX0_isSo_60 : decode cX0_isSo 60 = .ok (.aaload, 1) := by decide +kernel
theorem dX0_isSo_61 : decode cX0_isSo 61 = .ok (.iload_n 2, 1) := by decide +kernel
theorem dX0_isSo_62 : decode cX0_isSo 62 = .ok (.iaload, 1) := by decide +kernel
theorem dX0_isSo_63 : decode cX0_isSo 63 = .ok (.ifCond .ne 7, 3) := by decide +kernel
theorem dX0_isSo_66 : decode cX0_isSo 66 = .ok (.iconst 1, 1) := by decide +kernel
theorem dX0_isSo_67 : decode cX0_isSo 67 = .ok (.goto 4, 3) := by decide +kernel
theorem dX0_isSo_70 : decode cX0_isSo 70 = .ok (.iconst 0, 1) := by decide +kernel
theorem dX0_isSo_71 : decode cX0_isSo 71 = .ok (.ireturn, 1) := by decide +kernel
set_option maxHeartbeats 400000 in
set_option maxRecDepth 20000 in
theorem t_X0_isSo_0 (l : Launch) (ad : Nat → Nat) (D : va_G) (cs : Nat → ClassId) (g : Nat → Nat) (σ : Nat → Nat → Int32) (pre post : va_W) (n : Nat) (o : Nat) (hN : σ 0 0 = nI n) (hn : n ≤ 8) (ho : o < n) : CTi l yX0_isSo cX0_isSo 3 .boolean ({ frames := 2, cells := 0, slots := 0, locals := 43 }) ad D (tysW cs) (pre ++ (wK cs g (σ 0) ++ post)) [.ref (g 0), .int 0, .int (nI o)] (bI (σ 0 (8 + 5 * o + 3) = 0)) (pre ++ (wK cs g (σ 0) ++ post)) := by
  refine CTi.of (lv0 := [(0, .ref (g 0)), (1, .int 0), (2, .int (nI o))]) (by decide) rfl (Nat.le_of_ble_eq_true rfl) (fun p e s m args below meth c A C hr hlk => ?_)
  have C : Cx p s m args c cX0_isSo 3 RX0 ad D (tysW cs) A := C
  refine r_iload_n (pc := 0) C 1 dX0_isSo_0 rfl rfl ?_
  refine r_lookup (pc := 1) C (off := 27) 27 28 dX0_isSo_1 (by decide) (by decide) (by decide) ?_
  refine r_aload_n (pc := 28) C 0 dX0_isSo_28 rfl rfl ?_
  refine r_iload_n (pc := 29) C 2 dX0_isSo_29 rfl rfl ?_
  refine rc_Vi (pc := 30) C (t_X0_isOnSteps' l ad D cs g (fun _ => σ 0) pre post (σ 0) (rfl) n o hN hn ho) mv_X0_isOnSteps ml_RX0_93 rfl ⟨Nat.le_of_ble_eq_true rfl, Nat.le_of_ble_eq_true rfl⟩ ⟨rfl, rfl⟩ (q0 := 0) rfl rfl rfl rfl rfl rfl (Nat.le_of_ble_eq_true rfl) dX0_isSo_30 ?_
  exact r_iret (pc := 33) C hr hlk dX0_isSo_33 bI_nar rfl rfl
theorem t_X0_isSo_0' (l : Launch) (ad : Nat → Nat) (D : va_G) (cs : Nat → ClassId) (g : Nat → Nat) (σ : Nat → Nat → Int32) (pre post : va_W) (f0_ : Nat → Int32) (e0_ : σ 0 = f0_) (n : Nat) (o : Nat) (hN : f0_ 0 = nI n) (hn : n ≤ 8) (ho : o < n) : CTi l yX0_isSo cX0_isSo 3 .boolean ({ frames := 2, cells := 0, slots := 0, locals := 43 }) ad D (tysW cs) (pre ++ (wK cs g f0_ ++ post)) [.ref (g 0), .int 0, .int (nI o)] (bI (f0_ (8 + 5 * o + 3) = 0)) (pre ++ (wK cs g f0_ ++ post)) := by
  subst e0_
  exact t_X0_isSo_0 l ad D cs g σ pre post n o hN hn ho
set_option maxHeartbeats 400000 in
set_option maxRecDepth 20000 in
theorem t_X0_isSo_1 (l : Launch) (ad : Nat → Nat) (D : va_G) (cs : Nat → ClassId) (g : Nat → Nat) (σ : Nat → Nat → Int32) (pre post : va_W) (n : Nat) (o : Nat) (hN : σ 0 0 = nI n) (hn : n ≤ 8) : CTi l yX0_isSo cX0_isSo 3 .boolean ({ frames := 2, cells := 0, slots := 0, locals := 43 }) ad D (tysW cs) (pre ++ (wK cs g (σ 0) ++ post)) [.ref (g 0), .int 1, .int (nI o)] (bI (onN (σ 0) n = 2 ^ n - 1)) (pre ++ (wK cs g (σ 0) ++ post)) := by
  refine CTi.of (lv0 := [(0, .ref (g 0)), (1, .int 1), (2, .int (nI o))]) (by decide) rfl (Nat.le_of_ble_eq_true rfl) (fun p e s m args below meth c A C hr hlk => ?_)
  have C : Cx p s m args c cX0_isSo 3 RX0 ad D (tysW cs) A := C
  refine r_iload_n (pc := 0) C 1 dX0_isSo_0 rfl rfl ?_
  refine r_lookup (pc := 1) C (off := 33) 27 34 dX0_isSo_1 (by decide) (by decide) (by decide) ?_
  refine r_aload_n (pc := 34) C 0 dX0_isSo_34 rfl rfl ?_
  refine rc_Vi (pc := 35) C (t_X0_setOnSteps' l ad D cs g (fun _ => σ 0) pre post (σ 0) (rfl) n hN hn) mv_X0_setOnSteps ml_RX0_96 rfl ⟨Nat.le_of_ble_eq_true rfl, Nat.le_of_ble_eq_true rfl⟩ ⟨rfl, rfl⟩ (q0 := 0) rfl rfl rfl rfl rfl rfl (Nat.le_of_ble_eq_true rfl) dX0_isSo_35 ?_
  have h_f := onN_256 (m := σ 0) hn
  have h_g := pow_256 hn
  have h_h := Nat.two_pow_pos n
  refine r_eqi (y := nI (onN (σ 0) n)) (onF_N _ _ (by omega)) ?_
  refine r_iconst (pc := 38) C 1 dX0_isSo_38 (by decide) ?_
  refine r_aload_n (pc := 39) C 0 dX0_isSo_39 rfl rfl ?_
  refine kg_count (pc := 40) C fl_RX0_38 dX0_isSo_40 (σ 0 0) rfl ?_
  refine r_eqi (y := nI n) (hN) ?_
  refine r_ishl (pc := 43) C dX0_isSo_43 ?_
  refine r_eqi (y := nI (2 ^ n)) (bitI_N (by omega)) ?_
  refine r_iconst (pc := 44) C 1 dX0_isSo_44 (by decide) ?_
  refine r_isub (pc := 45) C dX0_isSo_45 ?_
  refine r_eqi (y := nI (2 ^ n - 1)) (pk_sub (b := 1) (by omega)) ?_
  refine r_icmp_ne (pc := 46) C 53 dX0_isSo_46 (by decide) (fun c_1 => ?_) (fun c_1 => ?_)
  · skip
    have c_1 := nIc_ne_t (a := (onN (σ 0) n)) (b := (2 ^ n - 1)) (by omega) (by omega) c_1
    refine r_iconst (pc := 53) C 0 dX0_isSo_53 (by decide) ?_
    exact r_iret (pc := 54) C hr hlk dX0_isSo_54 rfl (by first | exact bI_t ‹_› | exact bI_f ‹_› | rfl) rfl
  · skip
    have c_1 := nIc_ne_f (a := (onN (σ 0) n)) (b := (2 ^ n - 1)) (by omega) (by omega) c_1
    refine r_iconst (pc := 49) C 1 dX0_isSo_49 (by decide) ?_
    refine r_goto (pc := 50) C 54 dX0_isSo_50 (by decide) ?_
    exact r_iret (pc := 54) C hr hlk dX0_isSo_54 rfl (by first | exact bI_t ‹_› | exact bI_f ‹_› | rfl) rfl
theorem t_X0_isSo_1' (l : Launch) (ad : Nat → Nat) (D : va_G) (cs : Nat → ClassId) (g : Nat → Nat) (σ : Nat → Nat → Int32) (pre post : va_W) (f0_ : Nat → Int32) (e0_ : σ 0 = f0_) (n : Nat) (o : Nat) (hN : f0_ 0 = nI n) (hn : n ≤ 8) : CTi l yX0_isSo cX0_isSo 3 .boolean ({ frames := 2, cells := 0, slots := 0, locals := 43 }) ad D (tysW cs) (pre ++ (wK cs g f0_ ++ post)) [.ref (g 0), .int 1, .int (nI o)] (bI (onN f0_ n = 2 ^ n - 1)) (pre ++ (wK cs g f0_ ++ post)) := by
  subst e0_
  exact t_X0_isSo_1 l ad D cs g σ pre post n o hN hn
set_option maxHeartbeats 400000 in
set_option maxRecDepth 20000 in
theorem t_X0_isSo_2 (l : Launch) (ad : Nat → Nat) (D : va_G) (cs : Nat → ClassId) (g : Nat → Nat) (σ : Nat → Nat → Int32) (pre post : va_W) (n : Nat) (o : Nat) (hN : σ 0 0 = nI n) (hn : n ≤ 8) (ho : o < n) : CTi l yX0_isSo cX0_isSo 3 .boolean ({ frames := 2, cells := 0, slots := 0, locals := 43 }) ad D (tysW cs) (pre ++ (wK cs g (σ 0) ++ post)) [.ref (g 0), .int 2, .int (nI o)] (bI (σ 0 (8 + 5 * o + 4) = 0)) (pre ++ (wK cs g (σ 0) ++ post)) := by
  refine CTi.of (lv0 := [(0, .ref (g 0)), (1, .int 2), (2, .int (nI o))]) (by decide) rfl (Nat.le_of_ble_eq_true rfl) (fun p e s m args below meth c A C hr hlk => ?_)
  have C : Cx p s m args c cX0_isSo 3 RX0 ad D (tysW cs) A := C
  refine r_iload_n (pc := 0) C 1 dX0_isSo_0 rfl rfl ?_
  refine r_lookup (pc := 1) C (off := 54) 27 55 dX0_isSo_1 (by decide) (by decide) (by decide) ?_
  refine r_aload_n (pc := 55) C 0 dX0_isSo_55 rfl rfl ?_
  refine kg_has (pc := 56) C fl_RX0_25 dX0_isSo_56 ?_
  refine r_iconst (pc := 59) C 4 dX0_isSo_59 (by decide) ?_
  refine ka_has (pc := 60) C 4 (rfl) (by omega) dX0_isSo_60 ?_
  refine r_iload_n (pc := 61) C 2 dX0_isSo_61 rfl rfl ?_
  refine kl_row (pc := 62) C 4 (by decide) o (rfl) (by omega) dX0_isSo_62 (σ 0 (8 + 5 * o + 4)) rfl ?_
  refine r_if_ne (pc := 63) C 70 dX0_isSo_63 (by decide) (fun c_1 => ?_) (fun c_1 => ?_)
  · skip
    refine r_iconst (pc := 70) C 0 dX0_isSo_70 (by decide) ?_
    exact r_iret (pc := 71) C hr hlk dX0_isSo_71 rfl (by first | exact bI_t ‹_› | exact bI_f ‹_› | rfl) rfl
  · skip
    refine r_iconst (pc := 66) C 1 dX0_isSo_66 (by decide) ?_
    refine r_goto (pc := 67) C 71 dX0_isSo_67 (by decide) ?_
    exact r_iret (pc := 71) C hr hlk dX0_isSo_71 rfl (by first | exact bI_t ‹_› | exact bI_f ‹_› | rfl) rfl
theorem t_X0_isSo_2' (l : Launch) (ad : Nat → Nat) (D : va_G) (cs : Nat → ClassId) (g : Nat → Nat) (σ : Nat → Nat → Int32) (pre post : va_W) (f0_ : Nat → Int32) (e0_ : σ 0 = f0_) (n : Nat) (o : Nat) (hN : f0_ 0 = nI n) (hn : n ≤ 8) (ho : o < n) : CTi l yX0_isSo cX0_isSo 3 .boolean ({ frames := 2, cells := 0, slots := 0, locals := 43 }) ad D (tysW cs) (pre ++ (wK cs g f0_ ++ post)) [.ref (g 0), .int 2, .int (nI o)] (bI (f0_ (8 + 5 * o + 4) = 0)) (pre ++ (wK cs g f0_ ++ post)) := by
  subst e0_
  exact t_X0_isSo_2 l ad D cs g σ pre post n o hN hn ho
theorem dX0_partOfRow_0 : decode cX0_partOfRow 0 = .ok (.iload_n 2, 1) := by decide +kernel
theorem dX0_partOfRow_1 : decode cX0_partOfRow 1 = .ok (.lookupswitch 45 #[(0, 27), (1, 36)], 27) := by decide +kernel
theorem dX0_partOfRow_28 : decode cX0_partOfRow 28 = .ok (.aload_n 0, 1) := by decide +kernel
theorem dX0_partOfRow_29 : decode cX0_partOfRow 29 = .ok (.getfield 25, 3) := by decide +kernel
theorem dX0_partOfRow_32 : decode cX0_partOfRow 32 = .ok (.iconst 3, 1) := by decide +kernel
theorem dX0_partOfRow_33 : decode cX0_partOfRow 33 = .ok (.aaload, 1) := by decide +kernel
theorem dX0_partOfRow_34 : decode cX0_partOfRow 34 = .ok (.iload_n 1, 1) := by decide +kernel
theorem dX0_partOfRow_35 : decode cX0_partOfRow 35 = .ok (.iaload, 1) := by decide +kernel
theorem dX0_partOfRow_36 : decode cX0_partOfRow 36 = .ok (.ireturn, 1) := by decide +kernel
theorem dX0_partOfRow_37 : decode cX0_partOfRow 37 = .ok (.aload_n 0, 1) := by decide +kernel
theorem dX0_partOfRow_38 : decode cX0_partOfRow 38 = .ok (.getfield 25, 3) := by decide +kernel
theorem dX0_partOfRow_41 : decode cX0_partOfRow 41 = .ok (.iconst 4, 1) := by decide +kernel
theorem dX0_partOfRow_42 : decode cX0_partOfRow 42 = .ok (.aaload, 1) := by decide +kernel
theorem dX0_partOfRow_43 : decode cX0_partOfRow 43 = .ok (.iload_n 1, 1) := by decide +kernel
theorem dX0_partOfRow_44 : decode cX0_partOfRow 44 = .ok (.iaload, 1) := by decide +kernel
theorem dX0_partOfRow_45 : decode cX0_partOfRow 45 = .ok (.ireturn, 1) := by decide +kernel
theorem dX0_partOfRow_46 : decode cX0_partOfRow 46 = .ok (.aload_n 0, 1) := by decide +kernel
theorem dX0_partOfRow_47 : decode cX0_partOfRow 47 = .ok (.invokevirtual 96, 3) := by decide +kernel
theorem dX0_partOfRow_50 : decode cX0_partOfRow 50 = .ok (.ireturn, 1) := by decide +kernel
set_option maxHeartbeats 400000 in
set_option maxRecDepth 20000 in
theorem t_X0_partOfRow_0 (l : Launch) (ad : Nat → Nat) (D : va_G) (cs : Nat → ClassId) (g : Nat → Nat) (σ : Nat → Nat → Int32) (pre post : va_W) (n : Nat) (o : Nat) (hN : σ 0 0 = nI n) (hn : n ≤ 8) (ho : o < n) : CTi l yX0_partOfRow cX0_partOfRow 3 .int ({ frames := 2, cells := 0, slots := 0, locals := 43 }) ad D (tysW cs) (pre ++ (wK cs g (σ 0) ++ post)) [.ref (g 0), .int (nI o), .int 0] (σ 0 (8 + 5 * o + 3)) (pre ++ (wK cs g (σ 0) ++ post)) := by
  refine CTi.of (lv0 := [(0, .ref (g 0)), (1, .int (nI o)), (2, .int 0)]) (by decide) rfl (Nat.le_of_ble_eq_true rfl) (fun p e s m args below meth c A C hr hlk => ?_)
  have C : Cx p s m args c cX0_partOfRow 3 RX0 ad D (tysW cs) A := C
  refine r_iload_n (pc := 0) C 2 dX0_partOfRow_0 rfl rfl ?_
  refine r_lookup (pc := 1) C (off := 27) 27 28 dX0_partOfRow_1 (by decide) (by decide) (by decide) ?_
  refine r_aload_n (pc := 28) C 0 dX0_partOfRow_28 rfl rfl ?_
  refine kg_has (pc := 29) C fl_RX0_25 dX0_partOfRow_29 ?_
  refine r_iconst (pc := 32) C 3 dX0_partOfRow_32 (by decide) ?_
  refine ka_has (pc := 33) C 3 (rfl) (by omega) dX0_partOfRow_33 ?_
  refine r_iload_n (pc := 34) C 1 dX0_partOfRow_34 rfl rfl ?_
  refine kl_row (pc := 35) C 3 (by decide) o (rfl) (by omega) dX0_partOfRow_35 (σ 0 (8 + 5 * o + 3)) rfl ?_
  exact r_iret (pc := 36) C hr hlk dX0_partOfRow_36 rfl rfl rfl
theorem t_X0_partOfRow_0' (l : Launch) (ad : Nat → Nat) (D : va_G) (cs : Nat → ClassId) (g : Nat → Nat) (σ : Nat → Nat → Int32) (pre post : va_W) (f0_ : Nat → Int32) (e0_ : σ 0 = f0_) (n : Nat) (o : Nat) (hN : f0_ 0 = nI n) (hn : n ≤ 8) (ho : o < n) : CTi l yX0_partOfRow cX0_partOfRow 3 .int ({ frames := 2, cells := 0, slots := 0, locals := 43 }) ad D (tysW cs) (pre ++ (wK cs g f0_ ++ post)) [.ref (g 0), .int (nI o), .int 0] (f0_ (8 + 5 * o + 3)) (pre ++ (wK cs g f0_ ++ post)) := by
  subst e0_
  exact t_X0_partOfRow_0 l ad D cs g σ pre post n o hN hn ho
set_option maxHeartbeats 400000 in
set_option maxRecDepth 20000 in
theorem t_X0_partOfRow_1 (l : Launch) (ad : Nat → Nat) (D : va_G) (cs : Nat → ClassId) (g : Nat → Nat) (σ : Nat → Nat → Int32) (pre post : va_W) (n : Nat) (o : Nat) (hN : σ 0 0 = nI n) (hn : n ≤ 8) (ho : o < n) : CTi l yX0_partOfRow cX0_partOfRow 3 .int ({ frames := 2, cells := 0, slots := 0, locals := 43 }) ad D (tysW cs) (pre ++ (wK cs g (σ 0) ++ post)) [.ref (g 0), .int (nI o), .int 1] (σ 0 (8 + 5 * o + 4)) (pre ++ (wK cs g (σ 0) ++ post)) := by
  refine CTi.of (lv0 := [(0, .ref (g 0)), (1, .int (nI o)), (2, .int 1)]) (by decide) rfl (Nat.le_of_ble_eq_true rfl) (fun p e s m args below meth c A C hr hlk => ?_)
  have C : Cx p s m args c cX0_partOfRow 3 RX0 ad D (tysW cs) A := C
  refine r_iload_n (pc := 0) C 2 dX0_partOfRow_0 rfl rfl ?_
  refine r_lookup (pc := 1) C (off := 36) 27 37 dX0_partOfRow_1 (by decide) (by decide) (by decide) ?_
  refine r_aload_n (pc := 37) C 0 dX0_partOfRow_37 rfl rfl ?_
  refine kg_has (pc := 38) C fl_RX0_25 dX0_partOfRow_38 ?_
  refine r_iconst (pc := 41) C 4 dX0_partOfRow_41 (by decide) ?_
  refine ka_has (pc := 42) C 4 (rfl) (by omega) dX0_partOfRow_42 ?_
  refine r_iload_n (pc := 43) C 1 dX0_partOfRow_43 rfl rfl ?_
  refine kl_row (pc := 44) C 4 (by decide) o (rfl) (by omega) dX0_partOfRow_44 (σ 0 (8 + 5 * o + 4)) rfl ?_
  exact r_iret (pc := 45) C hr hlk dX0_partOfRow_45 rfl rfl rfl
theorem t_X0_partOfRow_1' (l : Launch) (ad : Nat → Nat) (D : va_G) (cs : Nat → ClassId) (g : Nat → Nat) (σ : Nat → Nat → Int32) (pre post : va_W) (f0_ : Nat → Int32) (e0_ : σ 0 = f0_) (n : Nat) (o : Nat) (hN : f0_ 0 = nI n) (hn : n ≤ 8) (ho : o < n) : CTi l yX0_partOfRow cX0_partOfRow 3 .int ({ frames := 2, cells := 0, slots := 0, locals := 43 }) ad D (tysW cs) (pre ++ (wK cs g f0_ ++ post)) [.ref (g 0), .int (nI o), .int 1] (f0_ (8 + 5 * o + 4)) (pre ++ (wK cs g f0_ ++ post)) := by
  subst e0_
  exact t_X0_partOfRow_1 l ad D cs g σ pre post n o hN hn ho
set_option maxHeartbeats 400000 in
set_option maxRecDepth 20000 in
theorem t_X0_partOfRow_2 (l : Launch) (ad : Nat → Nat) (D : va_G) (cs : Nat → ClassId) (g : Nat → Nat) (σ : Nat → Nat → Int32) (pre post : va_W) (n : Nat) (o : Nat) (hN : σ 0 0 = nI n) (hn : n ≤ 8) (ho : o < n) : CTi l yX0_partOfRow cX0_partOfRow 3 .int ({ frames := 2, cells := 0, slots := 0, locals := 43 }) ad D (tysW cs) (pre ++ (wK cs g (σ 0) ++ post)) [.ref (g 0), .int (nI o), .int 2] (onF (σ 0) n) (pre ++ (wK cs g (σ 0) ++ post)) := by
  refine CTi.of (lv0 := [(0, .ref (g 0)), (1, .int (nI o)), (2, .int 2)]) (by decide) rfl (Nat.le_of_ble_eq_true rfl) (fun p e s m args below meth c A C hr hlk => ?_)
  have C : Cx p s m args c cX0_partOfRow 3 RX0 ad D (tysW cs) A := C
  refine r_iload_n (pc := 0) C 2 dX0_partOfRow_0 rfl rfl ?_
  refine r_lookup (pc := 1) C (off := 45) 27 46 dX0_partOfRow_1 (by decide) (by decide) (by decide) ?_
  refine r_aload_n (pc := 46) C 0 dX0_partOfRow_46 rfl rfl ?_
  refine rc_Vi (pc := 47) C (t_X0_setOnSteps' l ad D cs g (fun _ => σ 0) pre post (σ 0) (rfl) n hN hn) mv_X0_setOnSteps ml_RX0_96 rfl ⟨Nat.le_of_ble_eq_true rfl, Nat.le_of_ble_eq_true rfl⟩ ⟨rfl, rfl⟩ (q0 := 0) rfl rfl rfl rfl rfl rfl (Nat.le_of_ble_eq_true rfl) dX0_partOfRow_47 ?_
  exact r_iret (pc := 50) C hr hlk dX0_partOfRow_50 rfl rfl rfl
theorem t_X0_partOfRow_2' (l : Launch) (ad : Nat → Nat) (D : va_G) (cs : Nat → ClassId) (g : Nat → Nat) (σ : Nat → Nat → Int32) (pre post : va_W) (f0_ : Nat → Int32) (e0_ : σ 0 = f0_) (n : Nat) (o : Nat) (hN : f0_ 0 = nI n) (hn : n ≤ 8) (ho : o < n) : CTi l yX0_partOfRow cX0_partOfRow 3 .int ({ frames := 2, cells := 0, slots := 0, locals := 43 }) ad D (tysW cs) (pre ++ (wK cs g f0_ ++ post)) [.ref (g 0), .int (nI o), .int 2] (onF f0_ n) (pre ++ (wK cs g f0_ ++ post)) := by
  subst e0_
  exact t_X0_partOfRow_2 l ad D cs g σ pre post n o hN hn ho
