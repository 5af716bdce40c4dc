theorem dX5_purseWith_0 : decode cX5_purseWith 0 = .ok (.aload_n 0, 1) := by decide +kernel
theorem dX5_purseWith_1 : decode cX5_purseWith 1 = .ok (.getfield 16, 3) := by decide +kernel
theorem dX5_purseWith_4 : decode cX5_purseWith 4 = .ok (.aload_n 0, 1) := by decide +kernel
theorem dX5_purseWith_5 : decode cX5_purseWith 5 = .ok (.getfield 10, 3) := by decide +kernel
theorem dX5_purseWith_8 : decode cX5_purseWith 8 = .ok (.invokevirtual 81, 3) := by decide +kernel
theorem dX5_purseWith_11 : decode cX5_purseWith 11 = .ok (.aload_n 0, 1) := by decide +kernel
theorem dX5_purseWith_12 : decode cX5_purseWith 12 = .ok (.getfield 16, 3) := by decide +kernel
theorem dX5_purseWith_15 : decode cX5_purseWith 15 = .ok (.getfield 113, 3) := by decide +kernel
theorem dX5_purseWith_18 : decode cX5_purseWith 18 = .ok (.iload_n 2, 1) := by decide +kernel
theorem dX5_purseWith_19 : decode cX5_purseWith 19 = .ok (.aaload, 1) := by decide +kernel
theorem dX5_purseWith_20 : decode cX5_purseWith 20 = .ok (.iload_n 1, 1) := by decide +kernel
theorem dX5_purseWith_21 : decode cX5_purseWith 21 = .ok (.iload_n 3, 1) := by decide +kernel
theorem dX5_purseWith_22 : decode cX5_purseWith 22 = .ok (.iastore, 1) := by decide +kernel
theorem dX5_purseWith_23 : decode cX5_purseWith 23 = .ok (.aload_n 0, 1) := by decide +kernel
theorem dX5_purseWith_24 : decode cX5_purseWith 24 = .ok (.getfield 16, 3) := by decide +kernel
theorem dX5_purseWith_27 : decode cX5_purseWith 27 = .ok (.iload 4, 2) := by decide +kernel
theorem dX5_purseWith_29 : decode cX5_purseWith 29 = .ok (.invokevirtual 142, 3) := by decide +kernel
theorem dX5_purseWith_32 : decode cX5_purseWith 32 = .ok (.aload_n 0, 1) := by decide +kernel
theorem dX5_purseWith_33 : decode cX5_purseWith 33 = .ok (.getfield 16, 3) := by decide +kernel
theorem dX5_purseWith_36 : decode cX5_purseWith 36 = .ok (.getfield 113, 3) := by decide +kernel
theorem dX5_purseWith_39 : decode cX5_purseWith 39 = .ok (.iconst 4, 1) := by decide +kernel
theorem dX5_purseWith_40 : decode cX5_purseWith 40 = .ok (.aaload, 1) := by decide +kernel
theorem dX5_purseWith_41 : decode cX5_purseWith 41 = .ok (.iload_n 1, 1) := by decide +kernel
theorem dX5_purseWith_42 : decode cX5_purseWith 42 = .ok (.iaload, 1) := by decide +kernel
theorem dX5_purseWith_43 : decode cX5_purseWith 43 = .ok (.ireturn, 1) := by decide +kernel
set_option maxHeartbeats 400000 in
set_option maxRecDepth 20000 in
theorem t_X5_purseWith_0 (l : Launch) (ad : Nat → Nat) (D : va_G) (cs : Nat → ClassId) (h : Nat → Nat) (σ : Nat → Nat → Int32) (pre post : va_W) (n : Nat) (o u k : Nat) (hN : σ 0 0 = nI n) (hn : n ≤ 8) (hR : rgM n (σ 0)) (ho : o < n) (hu : u ≤ 5) (hk : k ≤ 60) : CTi l yX5_purseWith cX5_purseWith 5 .int ({ frames := 5, cells := 0, slots := 0, locals := 114 }) ad D (tysW cs) (pre ++ (wX cs h σ ++ post)) [.ref (h 0), .int (nI o), .int 0, .int (nI u), .int (nI k)] (purF n (upd (σ 0) (8 + 5 * o) (nI u)) o k) (pre ++ (wX cs h (su σ 2 (daysF n (upd (σ 0) (8 + 5 * o) (nI u)) k)) ++ post)) := by
  refine CTi.of (lv0 := [(0, .ref (h 0)), (1, .int (nI o)), (2, .int 0), (3, .int (nI u)), (4, .int (nI k))]) (by decide) rfl (Nat.le_of_ble_eq_true rfl) (fun p e s m args below meth c A C hr hlk => ?_)
  have C : Cx p s m args c cX5_purseWith 5 RX5 ad D (tysW cs) A := C
  refine r_aload_n (pc := 0) C 0 dX5_purseWith_0 rfl rfl ?_
  refine xg_tried (pc := 1) C fl_RX5_16 dX5_purseWith_1 ?_
  refine r_aload_n (pc := 4) C 0 dX5_purseWith_4 rfl rfl ?_
  refine xg_now (pc := 5) C fl_RX5_10 dX5_purseWith_5 ?_
  refine rc_Vv (pc := 8) C (t_X0_copyFrom_0_2' l ad D cs h σ pre post (σ 0) (rfl)  ) mv_X0_copyFrom ml_RX5_81 rfl ⟨Nat.le_of_ble_eq_true rfl, Nat.le_of_ble_eq_true rfl⟩ ⟨rfl, rfl⟩ (q0 := 9) rfl rfl rfl rfl rfl rfl (Nat.le_of_ble_eq_true rfl) dX5_purseWith_8 ?_
  refine r_aload_n (pc := 11) C 0 dX5_purseWith_11 rfl rfl ?_
  refine xg_tried (pc := 12) C fl_RX5_16 dX5_purseWith_12 ?_
  refine xg_has_2 (pc := 15) C fl_RX5_113 dX5_purseWith_15 ?_
  refine r_iload_n (pc := 18) C 2 dX5_purseWith_18 rfl rfl ?_
  refine xa_has_2 (pc := 19) C 0 (rfl) (by omega) dX5_purseWith_19 ?_
  refine r_iload_n (pc := 20) C 1 dX5_purseWith_20 rfl rfl ?_
  refine r_iload_n (pc := 21) C 3 dX5_purseWith_21 rfl rfl ?_
  refine xs_row_2 (pc := 22) C 0 (by decide) o (rfl) (by omega) dX5_purseWith_22 (8 + 5 * o) rfl (σ 0) (su_at) ?_
  refine r_blk (blk' := wX cs h (su σ 2 (upd (σ 0) (8 + 5 * o) (nI u)))) (congrArg (wX cs h) (by rw [su_su])) ?_
  have hrg : rgM n (upd (σ 0) (8 + 5 * o) (nI u)) := rg_at0 hR
  refine r_aload_n (pc := 23) C 0 dX5_purseWith_23 rfl rfl ?_
  refine xg_tried (pc := 24) C fl_RX5_16 dX5_purseWith_24 ?_
  refine r_iload (pc := 27) C 4 dX5_purseWith_27 rfl ?_
  refine rc_Vv (pc := 29) C (t_X0_passDays' l ad D cs (fun j => h (9 + j)) (fun _ => upd (σ 0) (8 + 5 * o) (nI u)) (pre ++ xA_2 cs h (su σ 2 (upd (σ 0) (8 + 5 * o) (nI u)))) (xC_2 cs h (su σ 2 (upd (σ 0) (8 + 5 * o) (nI u))) ++ post) (upd (σ 0) (8 + 5 * o) (nI u)) rfl n k (upd_0 (by omega) hN) hn hrg hk) mv_X0_passDays ml_RX5_142 rfl ⟨Nat.le_of_ble_eq_true rfl, Nat.le_of_ble_eq_true rfl⟩ ⟨rfl, rfl⟩ (q0 := 0) rfl rfl rfl fx_2 (bx_2 _) rfl (Nat.le_of_ble_eq_true rfl) dX5_purseWith_29 ?_
  refine r_blk (blk' := wX cs h (su σ 2 (daysF n (upd (σ 0) (8 + 5 * o) (nI u)) k))) (congrArg (wX cs h) (by rw [su_su (k := 2)])) ?_
  have f_1 : daysF n (upd (σ 0) (8 + 5 * o) (nI u)) k 0 = nI n := daysF_0 (upd_0 (by omega) hN)
  refine r_aload_n (pc := 32) C 0 dX5_purseWith_32 rfl rfl ?_
  refine xg_tried (pc := 33) C fl_RX5_16 dX5_purseWith_33 ?_
  refine xg_has_2 (pc := 36) C fl_RX5_113 dX5_purseWith_36 ?_
  refine r_iconst (pc := 39) C 4 dX5_purseWith_39 (by decide) ?_
  refine xa_has_2 (pc := 40) C 4 (rfl) (by omega) dX5_purseWith_40 ?_
  refine r_iload_n (pc := 41) C 1 dX5_purseWith_41 rfl rfl ?_
  refine xl_row_2 (pc := 42) C 4 (by decide) o (rfl) (by omega) dX5_purseWith_42 (daysF n (upd (σ 0) (8 + 5 * o) (nI u)) k (8 + 5 * o + 4)) (congrFun (su_at) _) ?_
  exact r_iret (pc := 43) C hr hlk dX5_purseWith_43 rfl rfl rfl
theorem t_X5_purseWith_0' (l : Launch) (ad : Nat → Nat) (D : va_G) (cs : Nat → ClassId) (h : Nat → Nat) (σ : Nat → Nat → Int32) (pre post : va_W) (f0_ : Nat → Int32) (e0_ : σ 0 = f0_) (n : Nat) (o u k : Nat) (hN : f0_ 0 = nI n) (hn : n ≤ 8) (hR : rgM n f0_) (ho : o < n) (hu : u ≤ 5) (hk : k ≤ 60) : CTi l yX5_purseWith cX5_purseWith 5 .int ({ frames := 5, cells := 0, slots := 0, locals := 114 }) ad D (tysW cs) (pre ++ (wX cs h σ ++ post)) [.ref (h 0), .int (nI o), .int 0, .int (nI u), .int (nI k)] (purF n (upd f0_ (8 + 5 * o) (nI u)) o k) (pre ++ (wX cs h (su σ 2 (daysF n (upd f0_ (8 + 5 * o) (nI u)) k)) ++ post)) := by
  subst e0_
  exact t_X5_purseWith_0 l ad D cs h σ pre post n o u k hN hn hR ho hu hk
set_option maxHeartbeats 400000 in
set_option maxRecDepth 20000 in
theorem t_X5_purseWith_2 (l : Launch) (ad : Nat → Nat) (D : va_G) (cs : Nat → ClassId) (h : Nat → Nat) (σ : Nat → Nat → Int32) (pre post : va_W) (n : Nat) (o u k : Nat) (hN : σ 0 0 = nI n) (hn : n ≤ 8) (hR : rgM n (σ 0)) (ho : o < n) (hu : u ≤ 99) (hk : k ≤ 60) : CTi l yX5_purseWith cX5_purseWith 5 .int ({ frames := 5, cells := 0, slots := 0, locals := 114 }) ad D (tysW cs) (pre ++ (wX cs h σ ++ post)) [.ref (h 0), .int (nI o), .int 2, .int (nI u), .int (nI k)] (purF n (upd (σ 0) (8 + 5 * o + 2) (nI u)) o k) (pre ++ (wX cs h (su σ 2 (daysF n (upd (σ 0) (8 + 5 * o + 2) (nI u)) k)) ++ post)) := by
  refine CTi.of (lv0 := [(0, .ref (h 0)), (1, .int (nI o)), (2, .int 2), (3, .int (nI u)), (4, .int (nI k))]) (by decide) rfl (Nat.le_of_ble_eq_true rfl) (fun p e s m args below meth c A C hr hlk => ?_)
  have C : Cx p s m args c cX5_purseWith 5 RX5 ad D (tysW cs) A := C
  refine r_aload_n (pc := 0) C 0 dX5_purseWith_0 rfl rfl ?_
  refine xg_tried (pc := 1) C fl_RX5_16 dX5_purseWith_1 ?_
  refine r_aload_n (pc := 4) C 0 dX5_purseWith_4 rfl rfl ?_
  refine xg_now (pc := 5) C fl_RX5_10 dX5_purseWith_5 ?_
  refine rc_Vv (pc := 8) C (t_X0_copyFrom_0_2' l ad D cs h σ pre post (σ 0) (rfl)  ) mv_X0_copyFrom ml_RX5_81 rfl ⟨Nat.le_of_ble_eq_true rfl, Nat.le_of_ble_eq_true rfl⟩ ⟨rfl, rfl⟩ (q0 := 9) rfl rfl rfl rfl rfl rfl (Nat.le_of_ble_eq_true rfl) dX5_purseWith_8 ?_
  refine r_aload_n (pc := 11) C 0 dX5_purseWith_11 rfl rfl ?_
  refine xg_tried (pc := 12) C fl_RX5_16 dX5_purseWith_12 ?_
  refine xg_has_2 (pc := 15) C fl_RX5_113 dX5_purseWith_15 ?_
  refine r_iload_n (pc := 18) C 2 dX5_purseWith_18 rfl rfl ?_
  refine xa_has_2 (pc := 19) C 2 (rfl) (by omega) dX5_purseWith_19 ?_
  refine r_iload_n (pc := 20) C 1 dX5_purseWith_20 rfl rfl ?_
  refine r_iload_n (pc := 21) C 3 dX5_purseWith_21 rfl rfl ?_
  refine xs_row_2 (pc := 22) C 2 (by decide) o (rfl) (by omega) dX5_purseWith_22 (8 + 5 * o + 2) rfl (σ 0) (su_at) ?_
  refine r_blk (blk' := wX cs h (su σ 2 (upd (σ 0) (8 + 5 * o + 2) (nI u)))) (congrArg (wX cs h) (by rw [su_su])) ?_
  have hrg : rgM n (upd (σ 0) (8 + 5 * o + 2) (nI u)) := rg_at (by decide) hR
  refine r_aload_n (pc := 23) C 0 dX5_purseWith_23 rfl rfl ?_
  refine xg_tried (pc := 24) C fl_RX5_16 dX5_purseWith_24 ?_
  refine r_iload (pc := 27) C 4 dX5_purseWith_27 rfl ?_
  refine rc_Vv (pc := 29) C (t_X0_passDays' l ad D cs (fun j => h (9 + j)) (fun _ => upd (σ 0) (8 + 5 * o + 2) (nI u)) (pre ++ xA_2 cs h (su σ 2 (upd (σ 0) (8 + 5 * o + 2) (nI u)))) (xC_2 cs h (su σ 2 (upd (σ 0) (8 + 5 * o + 2) (nI u))) ++ post) (upd (σ 0) (8 + 5 * o + 2) (nI u)) rfl n k (upd_0 (by omega) hN) hn hrg hk) mv_X0_passDays ml_RX5_142 rfl ⟨Nat.le_of_ble_eq_true rfl, Nat.le_of_ble_eq_true rfl⟩ ⟨rfl, rfl⟩ (q0 := 0) rfl rfl rfl fx_2 (bx_2 _) rfl (Nat.le_of_ble_eq_true rfl) dX5_purseWith_29 ?_
  refine r_blk (blk' := wX cs h (su σ 2 (daysF n (upd (σ 0) (8 + 5 * o + 2) (nI u)) k))) (congrArg (wX cs h) (by rw [su_su (k := 2)])) ?_
  have f_1 : daysF n (upd (σ 0) (8 + 5 * o + 2) (nI u)) k 0 = nI n := daysF_0 (upd_0 (by omega) hN)
  refine r_aload_n (pc := 32) C 0 dX5_purseWith_32 rfl rfl ?_
  refine xg_tried (pc := 33) C fl_RX5_16 dX5_purseWith_33 ?_
  refine xg_has_2 (pc := 36) C fl_RX5_113 dX5_purseWith_36 ?_
  refine r_iconst (pc := 39) C 4 dX5_purseWith_39 (by decide) ?_
  refine xa_has_2 (pc := 40) C 4 (rfl) (by omega) dX5_purseWith_40 ?_
  refine r_iload_n (pc := 41) C 1 dX5_purseWith_41 rfl rfl ?_
  refine xl_row_2 (pc := 42) C 4 (by decide) o (rfl) (by omega) dX5_purseWith_42 (daysF n (upd (σ 0) (8 + 5 * o + 2) (nI u)) k (8 + 5 * o + 4)) (congrFun (su_at) _) ?_
  exact r_iret (pc := 43) C hr hlk dX5_purseWith_43 rfl rfl rfl
theorem t_X5_purseWith_2' (l : Launch) (ad : Nat → Nat) (D : va_G) (cs : Nat → ClassId) (h : Nat → Nat) (σ : Nat → Nat → Int32) (pre post : va_W) (f0_ : Nat → Int32) (e0_ : σ 0 = f0_) (n : Nat) (o u k : Nat) (hN : f0_ 0 = nI n) (hn : n ≤ 8) (hR : rgM n f0_) (ho : o < n) (hu : u ≤ 99) (hk : k ≤ 60) : CTi l yX5_purseWith cX5_purseWith 5 .int ({ frames := 5, cells := 0, slots := 0, locals := 114 }) ad D (tysW cs) (pre ++ (wX cs h σ ++ post)) [.ref (h 0), .int (nI o), .int 2, .int (nI u), .int (nI k)] (purF n (upd f0_ (8 + 5 * o + 2) (nI u)) o k) (pre ++ (wX cs h (su σ 2 (daysF n (upd f0_ (8 + 5 * o + 2) (nI u)) k)) ++ post)) := by
  subst e0_
  exact t_X5_purseWith_2 l ad D cs h σ pre post n o u k hN hn hR ho hu hk
set_option maxHeartbeats 400000 in
set_option maxRecDepth 20000 in
theorem t_X5_purseWith_3 (l : Launch) (ad : Nat → Nat) (D : va_G) (cs : Nat → ClassId) (h : Nat → Nat) (σ : Nat → Nat → Int32) (pre post : va_W) (n : Nat) (o u k : Nat) (hN : σ 0 0 = nI n) (hn : n ≤ 8) (hR : rgM n (σ 0)) (ho : o < n) (hu : u ≤ 99) (hk : k ≤ 60) : CTi l yX5_purseWith cX5_purseWith 5 .int ({ frames := 5, cells := 0, slots := 0, locals := 114 }) ad D (tysW cs) (pre ++ (wX cs h σ ++ post)) [.ref (h 0), .int (nI o), .int 3, .int (nI u), .int (nI k)] (purF n (upd (σ 0) (8 + 5 * o + 3) (nI u)) o k) (pre ++ (wX cs h (su σ 2 (daysF n (upd (σ 0) (8 + 5 * o + 3) (nI u)) k)) ++ post)) := by
  refine CTi.of (lv0 := [(0, .ref (h 0)), (1, .int (nI o)), (2, .int 3), (3, .int (nI u)), (4, .int (nI k))]) (by decide) rfl (Nat.le_of_ble_eq_true rfl) (fun p e s m args below meth c A C hr hlk => ?_)
  have C : Cx p s m args c cX5_purseWith 5 RX5 ad D (tysW cs) A := C
  refine r_aload_n (pc := 0) C 0 dX5_purseWith_0 rfl rfl ?_
  refine xg_tried (pc := 1) C fl_RX5_16 dX5_purseWith_1 ?_
  refine r_aload_n (pc := 4) C 0 dX5_purseWith_4 rfl rfl ?_
  refine xg_now (pc := 5) C fl_RX5_10 dX5_purseWith_5 ?_
  refine rc_Vv (pc := 8) C (t_X0_copyFrom_0_2' l ad D cs h σ pre post (σ 0) (rfl)  ) mv_X0_copyFrom ml_RX5_81 rfl ⟨Nat.le_of_ble_eq_true rfl, Nat.le_of_ble_eq_true rfl⟩ ⟨rfl, rfl⟩ (q0 := 9) rfl rfl rfl rfl rfl rfl (Nat.le_of_ble_eq_true rfl) dX5_purseWith_8 ?_
  refine r_aload_n (pc := 11) C 0 dX5_purseWith_11 rfl rfl ?_
  refine xg_tried (pc := 12) C fl_RX5_16 dX5_purseWith_12 ?_
  refine xg_has_2 (pc := 15) C fl_RX5_113 dX5_purseWith_15 ?_
  refine r_iload_n (pc := 18) C 2 dX5_purseWith_18 rfl rfl ?_
  refine xa_has_2 (pc := 19) C 3 (rfl) (by omega) dX5_purseWith_19 ?_
  refine r_iload_n (pc := 20) C 1 dX5_purseWith_20 rfl rfl ?_
  refine r_iload_n (pc := 21) C 3 dX5_purseWith_21 rfl rfl ?_
  refine xs_row_2 (pc := 22) C 3 (by decide) o (rfl) (by omega) dX5_purseWith_22 (8 + 5 * o + 3) rfl (σ 0) (su_at) ?_
  refine r_blk (blk' := wX cs h (su σ 2 (upd (σ 0) (8 + 5 * o + 3) (nI u)))) (congrArg (wX cs h) (by rw [su_su])) ?_
  have hrg : rgM n (upd (σ 0) (8 + 5 * o + 3) (nI u)) := rg_webN hR hu
  refine r_aload_n (pc := 23) C 0 dX5_purseWith_23 rfl rfl ?_
  refine xg_tried (pc := 24) C fl_RX5_16 dX5_purseWith_24 ?_
  refine r_iload (pc := 27) C 4 dX5_purseWith_27 rfl ?_
  refine rc_Vv (pc := 29) C (t_X0_passDays' l ad D cs (fun j => h (9 + j)) (fun _ => upd (σ 0) (8 + 5 * o + 3) (nI u)) (pre ++ xA_2 cs h (su σ 2 (upd (σ 0) (8 + 5 * o + 3) (nI u)))) (xC_2 cs h (su σ 2 (upd (σ 0) (8 + 5 * o + 3) (nI u))) ++ post) (upd (σ 0) (8 + 5 * o + 3) (nI u)) rfl n k (upd_0 (by omega) hN) hn hrg hk) mv_X0_passDays ml_RX5_142 rfl ⟨Nat.le_of_ble_eq_true rfl, Nat.le_of_ble_eq_true rfl⟩ ⟨rfl, rfl⟩ (q0 := 0) rfl rfl rfl fx_2 (bx_2 _) rfl (Nat.le_of_ble_eq_true rfl) dX5_purseWith_29 ?_
  refine r_blk (blk' := wX cs h (su σ 2 (daysF n (upd (σ 0) (8 + 5 * o + 3) (nI u)) k))) (congrArg (wX cs h) (by rw [su_su (k := 2)])) ?_
  have f_1 : daysF n (upd (σ 0) (8 + 5 * o + 3) (nI u)) k 0 = nI n := daysF_0 (upd_0 (by omega) hN)
  refine r_aload_n (pc := 32) C 0 dX5_purseWith_32 rfl rfl ?_
  refine xg_tried (pc := 33) C fl_RX5_16 dX5_purseWith_33 ?_
  refine xg_has_2 (pc := 36) C fl_RX5_113 dX5_purseWith_36 ?_
  refine r_iconst (pc := 39) C 4 dX5_purseWith_39 (by decide) ?_
  refine xa_has_2 (pc := 40) C 4 (rfl) (by omega) dX5_purseWith_40 ?_
  refine r_iload_n (pc := 41) C 1 dX5_purseWith_41 rfl rfl ?_
  refine xl_row_2 (pc := 42) C 4 (by decide) o (rfl) (by omega) dX5_purseWith_42 (daysF n (upd (σ 0) (8 + 5 * o + 3) (nI u)) k (8 + 5 * o + 4)) (congrFun (su_at) _) ?_
  exact r_iret (pc := 43) C hr hlk dX5_purseWith_43 rfl rfl rfl
theorem t_X5_purseWith_3' (l : Launch) (ad : Nat → Nat) (D : va_G) (cs : Nat → ClassId) (h : Nat → Nat) (σ : Nat → Nat → Int32) (pre post : va_W) (f0_ : Nat → Int32) (e0_ : σ 0 = f0_) (n : Nat) (o u k : Nat) (hN : f0_ 0 = nI n) (hn : n ≤ 8) (hR : rgM n f0_) (ho : o < n) (hu : u ≤ 99) (hk : k ≤ 60) : CTi l yX5_purseWith cX5_purseWith 5 .int ({ frames := 5, cells := 0, slots := 0, locals := 114 }) ad D (tysW cs) (pre ++ (wX cs h σ ++ post)) [.ref (h 0), .int (nI o), .int 3, .int (nI u), .int (nI k)] (purF n (upd f0_ (8 + 5 * o + 3) (nI u)) o k) (pre ++ (wX cs h (su σ 2 (daysF n (upd f0_ (8 + 5 * o + 3) (nI u)) k)) ++ post)) := by
  subst e0_
  exact t_X5_purseWith_3 l ad D cs h σ pre post n o u k hN hn hR ho hu hk
theorem dX5_purseInPlaceOf_0 : decode cX5_purseInPlaceOf 0 = .ok (.aload_n 0, 1) := by decide +kernel
theorem dX5_purseInPlaceOf_1 : decode cX5_purseInPlaceOf 1 = .ok (.getfield 16, 3) := by decide +kernel
theorem dX5_purseInPlaceOf_4 : decode cX5_purseInPlaceOf 4 = .ok (.aload_n 0, 1) := by decide +kernel
theorem dX5_purseInPlaceOf_5 : decode cX5_purseInPlaceOf 5 = .ok (.getfield 10, 3) := by decide +kernel
theorem dX5_purseInPlaceOf_8 : decode cX5_purseInPlaceOf 8 = .ok (.invokevirtual 81, 3) := by decide +kernel
theorem dX5_purseInPlaceOf_11 : decode cX5_purseInPlaceOf 11 = .ok (.aload_n 0, 1) := by decide +kernel
theorem dX5_purseInPlaceOf_12 : decode cX5_purseInPlaceOf 12 = .ok (.getfield 16, 3) := by decide +kernel
theorem dX5_purseInPlaceOf_15 : decode cX5_purseInPlaceOf 15 = .ok (.iload_n 1, 1) := by decide +kernel
theorem dX5_purseInPlaceOf_16 : decode cX5_purseInPlaceOf 16 = .ok (.iload_n 2, 1) := by decide +kernel
theorem dX5_purseInPlaceOf_17 : decode cX5_purseInPlaceOf 17 = .ok (.invokevirtual 138, 3) := by decide +kernel
theorem dX5_purseInPlaceOf_20 : decode cX5_purseInPlaceOf 20 = .ok (.aload_n 0, 1) := by decide +kernel
theorem dX5_purseInPlaceOf_21 : decode cX5_purseInPlaceOf 21 = .ok (.getfield 16, 3) := by decide +kernel
theorem dX5_purseInPlaceOf_24 : decode cX5_purseInPlaceOf 24 = .ok (.iload_n 3, 1) := by decide +kernel
theorem dX5_purseInPlaceOf_25 : decode cX5_purseInPlaceOf 25 = .ok (.invokevirtual 142, 3) := by decide +kernel
theorem dX5_purseInPlaceOf_28 : decode cX5_purseInPlaceOf 28 = .ok (.aload_n 0, 1) := by decide +kernel
theorem dX5_purseInPlaceOf_29 : decode cX5_purseInPlaceOf 29 = .ok (.getfield 16, 3) := by decide +kernel
theorem dX5_purseInPlaceOf_32 : decode cX5_purseInPlaceOf 32 = .ok (.getfield 113, 3) := by decide +kernel
theorem dX5_purseInPlaceOf_35 : decode cX5_purseInPlaceOf 35 = .ok (.iconst 4, 1) := by decide +kernel
theorem dX5_purseInPlaceOf_36 : decode cX5_purseInPlaceOf 36 = .ok (.aaload, 1) := by decide +kernel
theorem dX5_purseInPlaceOf_37 : decode cX5_purseInPlaceOf 37 = .ok (.iload_n 2, 1) := by decide +kernel
theorem dX5_purseInPlaceOf_38 : decode cX5_purseInPlaceOf 38 = .ok (.iaload, 1) := by decide +kernel
theorem dX5_purseInPlaceOf_39 : decode cX5_purseInPlaceOf 39 = .ok (.ireturn, 1) := by decide +kernel
set_option maxHeartbeats 400000 in
set_option maxRecDepth 20000 in
theorem t_X5_purseInPlaceOf (l : Launch) (ad : Nat → Nat) (D : va_G) (cs : Nat → ClassId) (h : Nat → Nat) (σ : Nat → Nat → Int32) (pre post : va_W) (n : Nat) (o q k : Nat) (hN : σ 0 0 = nI n) (hn : n ≤ 8) (hR : rgM n (σ 0)) (ho : o < n) (hq : q < n) (hd : o ≠ q) (hk : k ≤ 60) : CTi l yX5_purseInPlaceOf cX5_purseInPlaceOf 4 .int ({ frames := 5, cells := 0, slots := 0, locals := 114 }) ad D (tysW cs) (pre ++ (wX cs h σ ++ post)) [.ref (h 0), .int (nI o), .int (nI q), .int (nI k)] (purF n (chgF (σ 0) o q 5) q k) (pre ++ (wX cs h (su σ 2 (daysF n (chgF (σ 0) o q 5) k)) ++ post)) := by
  refine CTi.of (lv0 := [(0, .ref (h 0)), (1, .int (nI o)), (2, .int (nI q)), (3, .int (nI k))]) (by decide) rfl (Nat.le_of_ble_eq_true rfl) (fun p e s m args below meth c A C hr hlk => ?_)
  have C : Cx p s m args c cX5_purseInPlaceOf 4 RX5 ad D (tysW cs) A := C
  refine r_aload_n (pc := 0) C 0 dX5_purseInPlaceOf_0 rfl rfl ?_
  refine xg_tried (pc := 1) C fl_RX5_16 dX5_purseInPlaceOf_1 ?_
  refine r_aload_n (pc := 4) C 0 dX5_purseInPlaceOf_4 rfl rfl ?_
  refine xg_now (pc := 5) C fl_RX5_10 dX5_purseInPlaceOf_5 ?_
  refine rc_Vv (pc := 8) C (t_X0_copyFrom_0_2' l ad D cs h σ pre post (σ 0) (rfl)  ) mv_X0_copyFrom ml_RX5_81 rfl ⟨Nat.le_of_ble_eq_true rfl, Nat.le_of_ble_eq_true rfl⟩ ⟨rfl, rfl⟩ (q0 := 9) rfl rfl rfl rfl rfl rfl (Nat.le_of_ble_eq_true rfl) dX5_purseInPlaceOf_8 ?_
  refine r_aload_n (pc := 11) C 0 dX5_purseInPlaceOf_11 rfl rfl ?_
  refine xg_tried (pc := 12) C fl_RX5_16 dX5_purseInPlaceOf_12 ?_
  refine r_iload_n (pc := 15) C 1 dX5_purseInPlaceOf_15 rfl rfl ?_
  refine r_iload_n (pc := 16) C 2 dX5_purseInPlaceOf_16 rfl rfl ?_
  refine rc_Vv (pc := 17) C (t_X0_changePlaces' l ad D cs (fun j => h (9 + j)) (fun _ => σ 0) (pre ++ xA_2 cs h (su σ 2 (σ 0))) (xC_2 cs h (su σ 2 (σ 0)) ++ post) (σ 0) rfl n o q hN hn ho hq hd) mv_X0_changePlaces ml_RX5_138 rfl ⟨Nat.le_of_ble_eq_true rfl, Nat.le_of_ble_eq_true rfl⟩ ⟨rfl, rfl⟩ (q0 := 0) rfl rfl rfl fx_2 (bx_2 _) rfl (Nat.le_of_ble_eq_true rfl) dX5_purseInPlaceOf_17 ?_
  refine r_blk (blk' := wX cs h (su σ 2 (chgF (σ 0) o q 5))) (congrArg (wX cs h) (by rw [su_su (k := 2)])) ?_
  have f_1 : chgF (σ 0) o q 5 0 = nI n := chgF_0 hN 5
  have hrg : rgM n (chgF (σ 0) o q 5) := rg_chg hR ho hq hd
  refine r_aload_n (pc := 20) C 0 dX5_purseInPlaceOf_20 rfl rfl ?_
  refine xg_tried (pc := 21) C fl_RX5_16 dX5_purseInPlaceOf_21 ?_
  refine r_iload_n (pc := 24) C 3 dX5_purseInPlaceOf_24 rfl rfl ?_
  refine rc_Vv (pc := 25) C (t_X0_passDays' l ad D cs (fun j => h (9 + j)) (fun _ => chgF (σ 0) o q 5) (pre ++ xA_2 cs h (su σ 2 (chgF (σ 0) o q 5))) (xC_2 cs h (su σ 2 (chgF (σ 0) o q 5)) ++ post) (chgF (σ 0) o q 5) rfl n k f_1 hn hrg hk) mv_X0_passDays ml_RX5_142 rfl ⟨Nat.le_of_ble_eq_true rfl, Nat.le_of_ble_eq_true rfl⟩ ⟨rfl, rfl⟩ (q0 := 0) rfl rfl rfl fx_2 (bx_2 _) rfl (Nat.le_of_ble_eq_true rfl) dX5_purseInPlaceOf_25 ?_
  refine r_blk (blk' := wX cs h (su σ 2 (daysF n (chgF (σ 0) o q 5) k))) (congrArg (wX cs h) (by rw [su_su (k := 2)])) ?_
  have f_2 : daysF n (chgF (σ 0) o q 5) k 0 = nI n := daysF_0 f_1
  refine r_aload_n (pc := 28) C 0 dX5_purseInPlaceOf_28 rfl rfl ?_
  refine xg_tried (pc := 29) C fl_RX5_16 dX5_purseInPlaceOf_29 ?_
  refine xg_has_2 (pc := 32) C fl_RX5_113 dX5_purseInPlaceOf_32 ?_
  refine r_iconst (pc := 35) C 4 dX5_purseInPlaceOf_35 (by decide) ?_
  refine xa_has_2 (pc := 36) C 4 (rfl) (by omega) dX5_purseInPlaceOf_36 ?_
  refine r_iload_n (pc := 37) C 2 dX5_purseInPlaceOf_37 rfl rfl ?_
  refine xl_row_2 (pc := 38) C 4 (by decide) q (rfl) (by omega) dX5_purseInPlaceOf_38 (daysF n (chgF (σ 0) o q 5) k (8 + 5 * q + 4)) (congrFun (su_at) _) ?_
  exact r_iret (pc := 39) C hr hlk dX5_purseInPlaceOf_39 rfl rfl rfl
theorem t_X5_purseInPlaceOf' (l : Launch) (ad : Nat → Nat) (D : va_G) (cs : Nat → ClassId) (h : Nat → Nat) (σ : Nat → Nat → Int32) (pre post : va_W) (f0_ : Nat → Int32) (e0_ : σ 0 = f0_) (n : Nat) (o q k : Nat) (hN : f0_ 0 = nI n) (hn : n ≤ 8) (hR : rgM n f0_) (ho : o < n) (hq : q < n) (hd : o ≠ q) (hk : k ≤ 60) : CTi l yX5_purseInPlaceOf cX5_purseInPlaceOf 4 .int ({ frames := 5, cells := 0, slots := 0, locals := 114 }) ad D (tysW cs) (pre ++ (wX cs h σ ++ post)) [.ref (h 0), .int (nI o), .int (nI q), .int (nI k)] (purF n (chgF f0_ o q 5) q k) (pre ++ (wX cs h (su σ 2 (daysF n (chgF f0_ o q 5) k)) ++ post)) := by
  subst e0_
  exact t_X5_purseInPlaceOf l ad D cs h σ pre post n o q k hN hn hR ho hq hd hk
theorem dX5_bestTrait_0 : decode cX5_bestTrait 0 = .ok (.iconst (-1), 1) := by decide +kernel
theorem dX5_bestTrait_1 : decode cX5_bestTrait 1 = .ok (.istore 4, 2) := by decide +kernel
theorem dX5_bestTrait_3 : decode cX5_bestTrait 3 = .ok (.iconst 0, 1) := by decide +kernel
theorem dX5_bestTrait_4 : decode cX5_bestTrait 4 = .ok (.istore 5, 2) := by decide +kernel
theorem dX5_bestTrait_6 : decode cX5_bestTrait 6 = .ok (.iconst 0, 1) := by decide +kernel
theorem dX5_bestTrait_7 : decode cX5_bestTrait 7 = .ok (.istore 6, 2) := by decide +kernel
theorem dX5_bestTrait_9 : decode cX5_bestTrait 9 = .ok (.iload 6, 2) := by decide +kernel
theorem dX5_bestTrait_11 : decode cX5_bestTrait 11 = .ok (.getstatic 309, 3) := by decide +kernel
theorem dX5_bestTrait_14 : decode cX5_bestTrait 14 = .ok (.iload_n 2, 1) := by decide +kernel
theorem dX5_bestTrait_15 : decode cX5_bestTrait 15 = .ok (.iaload, 1) := by decide +kernel
theorem dX5_bestTrait_16 : decode cX5_bestTrait 16 = .ok (.if_icmp .gt 35, 3) := by decide +kernel
theorem dX5_bestTrait_19 : decode cX5_bestTrait 19 = .ok (.aload_n 0, 1) := by decide +kernel
theorem dX5_bestTrait_20 : decode cX5_bestTrait 20 = .ok (.iload_n 1, 1) := by decide +kernel
theorem dX5_bestTrait_21 : decode cX5_bestTrait 21 = .ok (.iload_n 2, 1) := by decide +kernel
theorem dX5_bestTrait_22 : decode cX5_bestTrait 22 = .ok (.iload 6, 2) := by decide +kernel
theorem dX5_bestTrait_24 : decode cX5_bestTrait 24 = .ok (.iload_n 3, 1) := by decide +kernel
theorem dX5_bestTrait_25 : decode cX5_bestTrait 25 = .ok (.invokevirtual 177, 3) := by decide +kernel
theorem dX5_bestTrait_28 : decode cX5_bestTrait 28 = .ok (.istore 7, 2) := by decide +kernel
theorem dX5_bestTrait_30 : decode cX5_bestTrait 30 = .ok (.iload 7, 2) := by decide +kernel
theorem dX5_bestTrait_32 : decode cX5_bestTrait 32 = .ok (.iload 4, 2) := by decide +kernel
theorem dX5_bestTrait_34 : decode cX5_bestTrait 34 = .ok (.if_icmp .le 11, 3) := by decide +kernel
theorem dX5_bestTrait_37 : decode cX5_bestTrait 37 = .ok (.iload 7, 2) := by decide +kernel
theorem dX5_bestTrait_39 : decode cX5_bestTrait 39 = .ok (.istore 4, 2) := by decide +kernel
theorem dX5_bestTrait_41 : decode cX5_bestTrait 41 = .ok (.iload 6, 2) := by decide +kernel
theorem dX5_bestTrait_43 : decode cX5_bestTrait 43 = .ok (.istore 5, 2) := by decide +kernel
theorem dX5_bestTrait_45 : decode cX5_bestTrait 45 = .ok (.iinc 6 1, 3) := by decide +kernel
theorem dX5_bestTrait_48 : decode cX5_bestTrait 48 = .ok (.goto (-39), 3) := by decide +kernel
theorem dX5_bestTrait_51 : decode cX5_bestTrait 51 = .ok (.iload 5, 2) := by decide +kernel
theorem dX5_bestTrait_53 : decode cX5_bestTrait 53 = .ok (.ireturn, 1) := by decide +kernel
set_option maxHeartbeats 400000 in
set_option maxRecDepth 20000 in
theorem t_X5_bestTrait_0 (l : Launch) (ad : Nat → Nat) (D : va_G) (cs : Nat → ClassId) (h : Nat → Nat) (σ : Nat → Nat → Int32) (pre post : va_W) (n : Nat) (o k : Nat) (hN : σ 0 0 = nI n) (hn : n ≤ 8) (hR : rgM n (σ 0)) (ho : o < n) (hk : k ≤ 60) : CTi l yX5_bestTrait cX5_bestTrait 8 .int ({ frames := 6, cells := 0, slots := 0, locals := 138 }) ad D (tysW cs) (pre ++ (wX cs h σ ++ post)) [.ref (h 0), .int (nI o), .int 0, .int (nI k)] (rbB n (σ 0) (8 + 5 * o) k o 6) (pre ++ (wX cs h (su σ 2 (itT (fun v_ => daysF n (upd (σ 0) (8 + 5 * o) (nI v_)) k) (σ 2) 6)) ++ post)) := by
  refine CTi.of (lv0 := [(0, .ref (h 0)), (1, .int (nI o)), (2, .int 0), (3, .int (nI k))]) (by decide) rfl (Nat.le_of_ble_eq_true rfl) (fun p e s m args below meth c A C hr hlk => ?_)
  have C : Cx p s m args c cX5_bestTrait 8 RX5 ad D (tysW cs) A := C
  refine r_iconst (pc := 0) C (-1) dX5_bestTrait_0 (by decide) ?_
  refine r_istore (pc := 1) C [(4, .int (-1)), (0, .ref (h 0)), (1, .int (nI o)), (2, .int 0), (3, .int (nI k))] dX5_bestTrait_1 (by decide) rfl ?_
  refine r_iconst (pc := 3) C 0 dX5_bestTrait_3 (by decide) ?_
  refine r_istore (pc := 4) C [(5, .int 0), (4, .int (-1)), (0, .ref (h 0)), (1, .int (nI o)), (2, .int 0), (3, .int (nI k))] dX5_bestTrait_4 (by decide) rfl ?_
  refine r_iconst (pc := 6) C 0 dX5_bestTrait_6 (by decide) ?_
  refine r_istore (pc := 7) C [(6, .int 0), (5, .int 0), (4, .int (-1)), (0, .ref (h 0)), (1, .int (nI o)), (2, .int 0), (3, .int (nI k))] dX5_bestTrait_7 (by decide) rfl ?_
  refine r_pick (lv' := [(0, .ref (h 0)), (1, .int (nI o)), (2, .int 0), (3, .int (nI k)), (4, .int (-1)), (5, .int 0), (6, .int 0)]) [3, 4, 5, 6, 2, 1, 0] rfl ?_
  refine r_lv (lv' := [(0, .ref (h 0)), (1, .int (nI o)), (2, .int 0), (3, .int (nI k)), (4, .int (rbM n (σ 0) (8 + 5 * o) k o 0)), (5, .int (rbB n (σ 0) (8 + 5 * o) k o 0)), (6, .int 0)]) (rfl) ?_
  refine r_blk (blk' := wX cs h (su σ 2 (itT (fun v_ => daysF n (upd (σ 0) (8 + 5 * o) (nI v_)) k) (σ 2) 0))) (rfl) ?_
  refine r_loop (blkf := fun i => wX cs h (su σ 2 (itT (fun v_ => daysF n (upd (σ 0) (8 + 5 * o) (nI v_)) k) (σ 2) i))) (lvf := fun i => [(0, .ref (h 0)), (1, .int (nI o)), (2, .int 0), (3, .int (nI k)), (4, .int (rbM n (σ 0) (8 + 5 * o) k o i)), (5, .int (rbB n (σ 0) (8 + 5 * o) k o i)), (6, .int (nI i))]) (fun i => True) 6 0 (by omega) (trivial) (fun i h_i _ ih_9 => ?_)
  show VX p l e _ s m args below meth c _ D A 8 pre (wX cs h (su σ 2 (itT (fun v_ => daysF n (upd (σ 0) (8 + 5 * o) (nI v_)) k) (σ 2) i))) post 9 [(0, .ref (h 0)), (1, .int (nI o)), (2, .int 0), (3, .int (nI k)), (4, .int (rbM n (σ 0) (8 + 5 * o) k o i)), (5, .int (rbB n (σ 0) (8 + 5 * o) k o i)), (6, .int (nI i))] []
  refine r_iload (pc := 9) C 6 dX5_bestTrait_9 rfl ?_
  refine r_gets (pc := 11) C fl_RX5_309 (C_t2 C).1 dX5_bestTrait_11 ?_
  refine r_iload_n (pc := 14) C 2 dX5_bestTrait_14 rfl rfl ?_
  refine r_ti (pc := 15) C (C_t2 C).2 0 (rfl) (show 0 < 5 by omega) (by decide) (v := 5) rfl dX5_bestTrait_15 ?_
  refine r_icmp_gt (pc := 16) C 51 dX5_bestTrait_16 (by decide) (fun c_1 => ?_) (fun c_1 => ?_)
  · skip
    have c_1 := nIc_gt_t (a := i) (b := 5) (by omega) (by omega) c_1
    obtain rfl : i = 6 := by omega
    refine r_iload (pc := 51) C 5 dX5_bestTrait_51 rfl ?_
    exact r_iret (pc := 53) C hr hlk dX5_bestTrait_53 rfl rfl rfl
  · skip
    have c_1 := nIc_gt_f (a := i) (b := 5) (by omega) (by omega) c_1
    refine r_aload_n (pc := 19) C 0 dX5_bestTrait_19 rfl rfl ?_
    refine r_iload_n (pc := 20) C 1 dX5_bestTrait_20 rfl rfl ?_
    refine r_iload_n (pc := 21) C 2 dX5_bestTrait_21 rfl rfl ?_
    refine r_iload (pc := 22) C 6 dX5_bestTrait_22 rfl ?_
    refine r_iload_n (pc := 24) C 3 dX5_bestTrait_24 rfl rfl ?_
    refine rc_Vi (pc := 25) C (t_X5_purseWith_0' l ad D cs h (su σ 2 (itT (fun v_ => daysF n (upd (σ 0) (8 + 5 * o) (nI v_)) k) (σ 2) i)) pre post (σ 0) ((su_nn (by decide))) n o i k hN hn hR ho (by omega) hk) mv_X5_purseWith ml_RX5_177 rfl ⟨Nat.le_of_ble_eq_true rfl, Nat.le_of_ble_eq_true rfl⟩ ⟨rfl, rfl⟩ (q0 := 0) rfl rfl rfl rfl rfl rfl (Nat.le_of_ble_eq_true rfl) dX5_bestTrait_25 ?_
    refine r_blk (blk' := wX cs h (su σ 2 (daysF n (upd (σ 0) (8 + 5 * o) (nI i)) k))) (congrArg (wX cs h) (by rw [su_su (k := 2)])) ?_
    refine r_istore (pc := 28) C [(7, .int (purF n (upd (σ 0) (8 + 5 * o) (nI i)) o k)), (0, .ref (h 0)), (1, .int (nI o)), (2, .int 0), (3, .int (nI k)), (4, .int (rbM n (σ 0) (8 + 5 * o) k o i)), (5, .int (rbB n (σ 0) (8 + 5 * o) k o i)), (6, .int (nI i))] dX5_bestTrait_28 (by decide) rfl ?_
    refine r_iload (pc := 30) C 0 dX5_bestTrait_30 rfl ?_
    refine r_iload (pc := 32) C 5 dX5_bestTrait_32 rfl ?_
    refine r_icmp_le (pc := 34) C 45 dX5_bestTrait_34 (by decide) (fun c_2 => ?_) (fun c_2 => ?_)
    · skip
      refine r_iinc (pc := 45) C (nI (i + 1)) 7 [(6, .int (nI (i + 1))), (7, .int (purF n (upd (σ 0) (8 + 5 * o) (nI i)) o k)), (0, .ref (h 0)), (1, .int (nI o)), (2, .int 0), (3, .int (nI k)), (4, .int (rbM n (σ 0) (8 + 5 * o) k o i)), (5, .int (rbB n (σ 0) (8 + 5 * o) k o i))] dX5_bestTrait_45 rfl (nI_1 _) (by decide) rfl ?_
      refine r_goto (pc := 48) C 9 dX5_bestTrait_48 (by decide) ?_
      refine r_pick (lv' := [(0, .ref (h 0)), (1, .int (nI o)), (2, .int 0), (3, .int (nI k)), (4, .int (rbM n (σ 0) (8 + 5 * o) k o i)), (5, .int (rbB n (σ 0) (8 + 5 * o) k o i)), (6, .int (nI (i + 1)))]) [2, 3, 4, 5, 6, 7, 0] rfl ?_
      refine r_lv (lv' := [(0, .ref (h 0)), (1, .int (nI o)), (2, .int 0), (3, .int (nI k)), (4, .int (rbM n (σ 0) (8 + 5 * o) k o (i + 1))), (5, .int (rbB n (σ 0) (8 + 5 * o) k o (i + 1))), (6, .int (nI (i + 1)))]) (lvc rfl (lvc rfl (lvc rfl (lvc rfl (lvc (congrArg Value.int (show (rbM n (σ 0) (8 + 5 * o) k o i : Int32) = rbM n (σ 0) (8 + 5 * o) k o (i + 1) from (mx_l ‹_›))) (lvc (congrArg Value.int (show (rbB n (σ 0) (8 + 5 * o) k o i : Int32) = rbB n (σ 0) (8 + 5 * o) k o (i + 1) from (if_pos ‹_›).symm)) (lvc rfl rfl))))))) ?_
      refine r_blk (blk' := wX cs h (su σ 2 (itT (fun v_ => daysF n (upd (σ 0) (8 + 5 * o) (nI v_)) k) (σ 2) (i + 1)))) (rfl) ?_
      exact ih_9 (by omega) (trivial)
    · skip
      refine r_iload (pc := 37) C 0 dX5_bestTrait_37 rfl ?_
      refine r_istore (pc := 39) C [(4, .int (purF n (upd (σ 0) (8 + 5 * o) (nI i)) o k)), (7, .int (purF n (upd (σ 0) (8 + 5 * o) (nI i)) o k)), (0, .ref (h 0)), (1, .int (nI o)), (2, .int 0), (3, .int (nI k)), (5, .int (rbB n (σ 0) (8 + 5 * o) k o i)), (6, .int (nI i))] dX5_bestTrait_39 (by decide) rfl ?_
      refine r_iload (pc := 41) C 7 dX5_bestTrait_41 rfl ?_
      refine r_istore (pc := 43) C [(5, .int (nI i)), (4, .int (purF n (upd (σ 0) (8 + 5 * o) (nI i)) o k)), (7, .int (purF n (upd (σ 0) (8 + 5 * o) (nI i)) o k)), (0, .ref (h 0)), (1, .int (nI o)), (2, .int 0), (3, .int (nI k)), (6, .int (nI i))] dX5_bestTrait_43 (by decide) rfl ?_
      refine r_iinc (pc := 45) C (nI (i + 1)) 7 [(6, .int (nI (i + 1))), (5, .int (nI i)), (4, .int (purF n (upd (σ 0) (8 + 5 * o) (nI i)) o k)), (7, .int (purF n (upd (σ 0) (8 + 5 * o) (nI i)) o k)), (0, .ref (h 0)), (1, .int (nI o)), (2, .int 0), (3, .int (nI k))] dX5_bestTrait_45 rfl (nI_1 _) (by decide) rfl ?_
      refine r_goto (pc := 48) C 9 dX5_bestTrait_48 (by decide) ?_
      refine r_pick (lv' := [(0, .ref (h 0)), (1, .int (nI o)), (2, .int 0), (3, .int (nI k)), (4, .int (purF n (upd (σ 0) (8 + 5 * o) (nI i)) o k)), (5, .int (nI i)), (6, .int (nI (i + 1)))]) [4, 5, 6, 7, 2, 1, 0] rfl ?_
      refine r_lv (lv' := [(0, .ref (h 0)), (1, .int (nI o)), (2, .int 0), (3, .int (nI k)), (4, .int (rbM n (σ 0) (8 + 5 * o) k o (i + 1))), (5, .int (rbB n (σ 0) (8 + 5 * o) k o (i + 1))), (6, .int (nI (i + 1)))]) (lvc rfl (lvc rfl (lvc rfl (lvc rfl (lvc (congrArg Value.int (show (purF n (upd (σ 0) (8 + 5 * o) (nI i)) o k : Int32) = rbM n (σ 0) (8 + 5 * o) k o (i + 1) from (mx_r ‹_›))) (lvc (congrArg Value.int (show (nI i : Int32) = rbB n (σ 0) (8 + 5 * o) k o (i + 1) from (if_neg ‹_›).symm)) (lvc rfl rfl))))))) ?_
      refine r_blk (blk' := wX cs h (su σ 2 (itT (fun v_ => daysF n (upd (σ 0) (8 + 5 * o) (nI v_)) k) (σ 2) (i + 1)))) (rfl) ?_
      exact ih_9 (by omega) (trivial)
theorem t_X5_bestTrait_0' (l : Launch) (ad : Nat → Nat) (D : va_G) (cs : Nat → ClassId) (h : Nat → Nat) (σ : Nat → Nat → Int32) (pre post : va_W) (f0_ : Nat → Int32) (e0_ : σ 0 = f0_) (f2_ : Nat → Int32) (e2_ : σ 2 = f2_) (n : Nat) (o k : Nat) (hN : f0_ 0 = nI n) (hn : n ≤ 8) (hR : rgM n f0_) (ho : o < n) (hk : k ≤ 60) : CTi l yX5_bestTrait cX5_bestTrait 8 .int ({ frames := 6, cells := 0, slots := 0, locals := 138 }) ad D (tysW cs) (pre ++ (wX cs h σ ++ post)) [.ref (h 0), .int (nI o), .int 0, .int (nI k)] (rbB n f0_ (8 + 5 * o) k o 6) (pre ++ (wX cs h (su σ 2 (itT (fun v_ => daysF n (upd f0_ (8 + 5 * o) (nI v_)) k) (f2_) 6)) ++ post)) := by
  subst e0_; subst e2_
  exact t_X5_bestTrait_0 l ad D cs h σ pre post n o k hN hn hR ho hk
set_option maxHeartbeats 400000 in
set_option maxRecDepth 20000 in
theorem t_X5_bestTrait_3 (l : Launch) (ad : Nat → Nat) (D : va_G) (cs : Nat → ClassId) (h : Nat → Nat) (σ : Nat → Nat → Int32) (pre post : va_W) (n : Nat) (o k : Nat) (hN : σ 0 0 = nI n) (hn : n ≤ 8) (hR : rgM n (σ 0)) (ho : o < n) (hk : k ≤ 60) : CTi l yX5_bestTrait cX5_bestTrait 8 .int ({ frames := 6, cells := 0, slots := 0, locals := 138 }) ad D (tysW cs) (pre ++ (wX cs h σ ++ post)) [.ref (h 0), .int (nI o), .int 3, .int (nI k)] (rbB n (σ 0) (8 + 5 * o + 3) k o 100) (pre ++ (wX cs h (su σ 2 (itT (fun v_ => daysF n (upd (σ 0) (8 + 5 * o + 3) (nI v_)) k) (σ 2) 100)) ++ post)) := by
  refine CTi.of (lv0 := [(0, .ref (h 0)), (1, .int (nI o)), (2, .int 3), (3, .int (nI k))]) (by decide) rfl (Nat.le_of_ble_eq_true rfl) (fun p e s m args below meth c A C hr hlk => ?_)
  have C : Cx p s m args c cX5_bestTrait 8 RX5 ad D (tysW cs) A := C
  refine r_iconst (pc := 0) C (-1) dX5_bestTrait_0 (by decide) ?_
  refine r_istore (pc := 1) C [(4, .int (-1)), (0, .ref (h 0)), (1, .int (nI o)), (2, .int 3), (3, .int (nI k))] dX5_bestTrait_1 (by decide) rfl ?_
  refine r_iconst (pc := 3) C 0 dX5_bestTrait_3 (by decide) ?_
  refine r_istore (pc := 4) C [(5, .int 0), (4, .int (-1)), (0, .ref (h 0)), (1, .int (nI o)), (2, .int 3), (3, .int (nI k))] dX5_bestTrait_4 (by decide) rfl ?_
  refine r_iconst (pc := 6) C 0 dX5_bestTrait_6 (by decide) ?_
  refine r_istore (pc := 7) C [(6, .int 0), (5, .int 0), (4, .int (-1)), (0, .ref (h 0)), (1, .int (nI o)), (2, .int 3), (3, .int (nI k))] dX5_bestTrait_7 (by decide) rfl ?_
  refine r_pick (lv' := [(0, .ref (h 0)), (1, .int (nI o)), (2, .int 3), (3, .int (nI k)), (4, .int (-1)), (5, .int 0), (6, .int 0)]) [3, 4, 5, 6, 2, 1, 0] rfl ?_
  refine r_lv (lv' := [(0, .ref (h 0)), (1, .int (nI o)), (2, .int 3), (3, .int (nI k)), (4, .int (rbM n (σ 0) (8 + 5 * o + 3) k o 0)), (5, .int (rbB n (σ 0) (8 + 5 * o + 3) k o 0)), (6, .int 0)]) (rfl) ?_
  refine r_blk (blk' := wX cs h (su σ 2 (itT (fun v_ => daysF n (upd (σ 0) (8 + 5 * o + 3) (nI v_)) k) (σ 2) 0))) (rfl) ?_
  refine r_loop (blkf := fun i => wX cs h (su σ 2 (itT (fun v_ => daysF n (upd (σ 0) (8 + 5 * o + 3) (nI v_)) k) (σ 2) i))) (lvf := fun i => [(0, .ref (h 0)), (1, .int (nI o)), (2, .int 3), (3, .int (nI k)), (4, .int (rbM n (σ 0) (8 + 5 * o + 3) k o i)), (5, .int (rbB n (σ 0) (8 + 5 * o + 3) k o i)), (6, .int (nI i))]) (fun i => True) 100 0 (by omega) (trivial) (fun i h_i _ ih_9 => ?_)
  show VX p l e _ s m args below meth c _ D A 8 pre (wX cs h (su σ 2 (itT (fun v_ => daysF n (upd (σ 0) (8 + 5 * o + 3) (nI v_)) k) (σ 2) i))) post 9 [(0, .ref (h 0)), (1, .int (nI o)), (2, .int 3), (3, .int (nI k)), (4, .int (rbM n (σ 0) (8 + 5 * o + 3) k o i)), (5, .int (rbB n (σ 0) (8 + 5 * o + 3) k o i)), (6, .int (nI i))] []
  refine r_iload (pc := 9) C 6 dX5_bestTrait_9 rfl ?_
  refine r_gets (pc := 11) C fl_RX5_309 (C_t2 C).1 dX5_bestTrait_11 ?_
  refine r_iload_n (pc := 14) C 2 dX5_bestTrait_14 rfl rfl ?_
  refine r_ti (pc := 15) C (C_t2 C).2 3 (rfl) (show 3 < 5 by omega) (by decide) (v := 99) rfl dX5_bestTrait_15 ?_
  refine r_icmp_gt (pc := 16) C 51 dX5_bestTrait_16 (by decide) (fun c_1 => ?_) (fun c_1 => ?_)
  · skip
    have c_1 := nIc_gt_t (a := i) (b := 99) (by omega) (by omega) c_1
    obtain rfl : i = 100 := by omega
    refine r_iload (pc := 51) C 5 dX5_bestTrait_51 rfl ?_
    exact r_iret (pc := 53) C hr hlk dX5_bestTrait_53 rfl rfl rfl
  · skip
    have c_1 := nIc_gt_f (a := i) (b := 99) (by omega) (by omega) c_1
    refine r_aload_n (pc := 19) C 0 dX5_bestTrait_19 rfl rfl ?_
    refine r_iload_n (pc := 20) C 1 dX5_bestTrait_20 rfl rfl ?_
    refine r_iload_n (pc := 21) C 2 dX5_bestTrait_21 rfl rfl ?_
    refine r_iload (pc := 22) C 6 dX5_bestTrait_22 rfl ?_
    refine r_iload_n (pc := 24) C 3 dX5_bestTrait_24 rfl rfl ?_
    refine rc_Vi (pc := 25) C (t_X5_purseWith_3' l ad D cs h (su σ 2 (itT (fun v_ => daysF n (upd (σ 0) (8 + 5 * o + 3) (nI v_)) k) (σ 2) i)) pre post (σ 0) ((su_nn (by decide))) n o i k hN hn hR ho (by omega) hk) mv_X5_purseWith ml_RX5_177 rfl ⟨Nat.le_of_ble_eq_true rfl, Nat.le_of_ble_eq_true rfl⟩ ⟨rfl, rfl⟩ (q0 := 0) rfl rfl rfl rfl rfl rfl (Nat.le_of_ble_eq_true rfl) dX5_bestTrait_25 ?_
    refine r_blk (blk' := wX cs h (su σ 2 (daysF n (upd (σ 0) (8 + 5 * o + 3) (nI i)) k))) (congrArg (wX cs h) (by rw [su_su (k := 2)])) ?_
    refine r_istore (pc := 28) C [(7, .int (purF n (upd (σ 0) (8 + 5 * o + 3) (nI i)) o k)), (0, .ref (h 0)), (1, .int (nI o)), (2, .int 3), (3, .int (nI k)), (4, .int (rbM n (σ 0) (8 + 5 * o + 3) k o i)), (5, .int (rbB n (σ 0) (8 + 5 * o + 3) k o i)), (6, .int (nI i))] dX5_bestTrait_28 (by decide) rfl ?_
    refine r_iload (pc := 30) C 0 dX5_bestTrait_30 rfl ?_
    refine r_iload (pc := 32) C 5 dX5_bestTrait_32 rfl ?_
    refine r_icmp_le (pc := 34) C 45 dX5_bestTrait_34 (by decide) (fun c_2 => ?_) (fun c_2 => ?_)
    · skip
      refine r_iinc (pc := 45) C (nI (i + 1)) 7 [(6, .int (nI (i + 1))), (7, .int (purF n (upd (σ 0) (8 + 5 * o + 3) (nI i)) o k)), (0, .ref (h 0)), (1, .int (nI o)), (2, .int 3), (3, .int (nI k)), (4, .int (rbM n (σ 0) (8 + 5 * o + 3) k o i)), (5, .int (rbB n (σ 0) (8 + 5 * o + 3) k o i))] dX5_bestTrait_45 rfl (nI_1 _) (by decide) rfl ?_
      refine r_goto (pc := 48) C 9 dX5_bestTrait_48 (by decide) ?_
      refine r_pick (lv' := [(0, .ref (h 0)), (1, .int (nI o)), (2, .int 3), (3, .int (nI k)), (4, .int (rbM n (σ 0) (8 + 5 * o + 3) k o i)), (5, .int (rbB n (σ 0) (8 + 5 * o + 3) k o i)), (6, .int (nI (i + 1)))]) [2, 3, 4, 5, 6, 7, 0] rfl ?_
      refine r_lv (lv' := [(0, .ref (h 0)), (1, .int (nI o)), (2, .int 3), (3, .int (nI k)), (4, .int (rbM n (σ 0) (8 + 5 * o + 3) k o (i + 1))), (5, .int (rbB n (σ 0) (8 + 5 * o + 3) k o (i + 1))), (6, .int (nI (i + 1)))]) (lvc rfl (lvc rfl (lvc rfl (lvc rfl (lvc (congrArg Value.int (show (rbM n (σ 0) (8 + 5 * o + 3) k o i : Int32) = rbM n (σ 0) (8 + 5 * o + 3) k o (i + 1) from (mx_l ‹_›))) (lvc (congrArg Value.int (show (rbB n (σ 0) (8 + 5 * o + 3) k o i : Int32) = rbB n (σ 0) (8 + 5 * o + 3) k o (i + 1) from (if_pos ‹_›).symm)) (lvc rfl rfl))))))) ?_
      refine r_blk (blk' := wX cs h (su σ 2 (itT (fun v_ => daysF n (upd (σ 0) (8 + 5 * o + 3) (nI v_)) k) (σ 2) (i + 1)))) (rfl) ?_
      exact ih_9 (by omega) (trivial)
    · skip
      refine r_iload (pc := 37) C 0 dX5_bestTrait_37 rfl ?_
      refine r_istore (pc := 39) C [(4, .int (purF n (upd (σ 0) (8 + 5 * o + 3) (nI i)) o k)), (7, .int (purF n (upd (σ 0) (8 + 5 * o + 3) (nI i)) o k)), (0, .ref (h 0)), (1, .int (nI o)), (2, .int 3), (3, .int (nI k)), (5, .int (rbB n (σ 0) (8 + 5 * o + 3) k o i)), (6, .int (nI i))] dX5_bestTrait_39 (by decide) rfl ?_
      refine r_iload (pc := 41) C 7 dX5_bestTrait_41 rfl ?_
      refine r_istore (pc := 43) C [(5, .int (nI i)), (4, .int (purF n (upd (σ 0) (8 + 5 * o + 3) (nI i)) o k)), (7, .int (purF n (upd (σ 0) (8 + 5 * o + 3) (nI i)) o k)), (0, .ref (h 0)), (1, .int (nI o)), (2, .int 3), (3, .int (nI k)), (6, .int (nI i))] dX5_bestTrait_43 (by decide) rfl ?_
      refine r_iinc (pc := 45) C (nI (i + 1)) 7 [(6, .int (nI (i + 1))), (5, .int (nI i)), (4, .int (purF n (upd (σ 0) (8 + 5 * o + 3) (nI i)) o k)), (7, .int (purF n (upd (σ 0) (8 + 5 * o + 3) (nI i)) o k)), (0, .ref (h 0)), (1, .int (nI o)), (2, .int 3), (3, .int (nI k))] dX5_bestTrait_45 rfl (nI_1 _) (by decide) rfl ?_
      refine r_goto (pc := 48) C 9 dX5_bestTrait_48 (by decide) ?_
      refine r_pick (lv' := [(0, .ref (h 0)), (1, .int (nI o)), (2, .int 3), (3, .int (nI k)), (4, .int (purF n (upd (σ 0) (8 + 5 * o + 3) (nI i)) o k)), (5, .int (nI i)), (6, .int (nI (i + 1)))]) [4, 5, 6, 7, 2, 1, 0] rfl ?_
      refine r_lv (lv' := [(0, .ref (h 0)), (1, .int (nI o)), (2, .int 3), (3, .int (nI k)), (4, .int (rbM n (σ 0) (8 + 5 * o + 3) k o (i + 1))), (5, .int (rbB n (σ 0) (8 + 5 * o + 3) k o (i + 1))), (6, .int (nI (i + 1)))]) (lvc rfl (lvc rfl (lvc rfl (lvc rfl (lvc (congrArg Value.int (show (purF n (upd (σ 0) (8 + 5 * o + 3) (nI i)) o k : Int32) = rbM n (σ 0) (8 + 5 * o + 3) k o (i + 1) from (mx_r ‹_›))) (lvc (congrArg Value.int (show (nI i : Int32) = rbB n (σ 0) (8 + 5 * o + 3) k o (i + 1) from (if_neg ‹_›).symm)) (lvc rfl rfl))))))) ?_
      refine r_blk (blk' := wX cs h (su σ 2 (itT (fun v_ => daysF n (upd (σ 0) (8 + 5 * o + 3) (nI v_)) k) (σ 2) (i + 1)))) (rfl) ?_
      exact ih_9 (by omega) (trivial)
theorem t_X5_bestTrait_3' (l : Launch) (ad : Nat → Nat) (D : va_G) (cs : Nat → ClassId) (h : Nat → Nat) (σ : Nat → Nat → Int32) (pre post : va_W) (f0_ : Nat → Int32) (e0_ : σ 0 = f0_) (f2_ : Nat → Int32) (e2_ : σ 2 = f2_) (n : Nat) (o k : Nat) (hN : f0_ 0 = nI n) (hn : n ≤ 8) (hR : rgM n f0_) (ho : o < n) (hk : k ≤ 60) : CTi l yX5_bestTrait cX5_bestTrait 8 .int ({ frames := 6, cells := 0, slots := 0, locals := 138 }) ad D (tysW cs) (pre ++ (wX cs h σ ++ post)) [.ref (h 0), .int (nI o), .int 3, .int (nI k)] (rbB n f0_ (8 + 5 * o + 3) k o 100) (pre ++ (wX cs h (su σ 2 (itT (fun v_ => daysF n (upd f0_ (8 + 5 * o + 3) (nI v_)) k) (f2_) 100)) ++ post)) := by
  subst e0_; subst e2_
  exact t_X5_bestTrait_3 l ad D cs h σ pre post n o k hN hn hR ho hk
theorem dX5_webFor_0 : decode cX5_webFor 0 = .ok (.aload_n 0, 1) := by decide +kernel
theorem dX5_webFor_1 : decode cX5_webFor 1 = .ok (.iload_n 1, 1) := by decide +kernel
theorem dX5_webFor_2 : decode cX5_webFor 2 = .ok (.iload_n 2, 1) := by decide +kernel
theorem dX5_webFor_3 : decode cX5_webFor 3 = .ok (.invokevirtual 170, 3) := by decide +kernel
theorem dX5_webFor_6 : decode cX5_webFor 6 = .ok (.ifCond .eq 13, 3) := by decide +kernel
theorem dX5_webFor_9 : decode cX5_webFor 9 = .ok (.aload_n 0, 1) := by decide +kernel
theorem dX5_webFor_10 : decode cX5_webFor 10 = .ok (.iload_n 1, 1) := by decide +kernel
theorem dX5_webFor_11 : decode cX5_webFor 11 = .ok (.iconst 3, 1) := by decide +kernel
theorem dX5_webFor_12 : decode cX5_webFor 12 = .ok (.iload_n 2, 1) := by decide +kernel
theorem dX5_webFor_13 : decode cX5_webFor 13 = .ok (.invokevirtual 173, 3) := by decide +kernel
theorem dX5_webFor_16 : decode cX5_webFor 16 = .ok (.goto 4, 3) := by decide +kernel
theorem dX5_webFor_19 : decode cX5_webFor 19 = .ok (.iconst (-1), 1) := by decide +kernel
theorem dX5_webFor_20 : decode cX5_webFor 20 = .ok (.ireturn, 1) := by decide +kernel
set_option maxHeartbeats 400000 in
set_option maxRecDepth 20000 in
theorem t_X5_webFor (l : Launch) (ad : Nat → Nat) (D : va_G) (cs : Nat → ClassId) (h : Nat → Nat) (σ : Nat → Nat → Int32) (pre post : va_W) (n : Nat) (o k : Int32) (hN : σ 0 0 = nI n) (hn : n ≤ 8) (hR : rgM n (σ 0)) : CTi l yX5_webFor cX5_webFor 3 .int ({ frames := 7, cells := 0, slots := 0, locals := 165 }) ad D (tysW cs) (pre ++ (wX cs h σ ++ post)) [.ref (h 0), .int o, .int k] (gateI (oneB n o && inB k 1 20) (rbB n (σ 0) (8 + 5 * o.toNatClampNeg + 3) k.toNatClampNeg o.toNatClampNeg (99 + 1)) (-1)) (pre ++ (wX cs h (su σ 2 (gateF (oneB n o && inB k 1 20) (itT (fun v_ => daysF n (upd (σ 0) (8 + 5 * o.toNatClampNeg + 3) (nI v_)) k.toNatClampNeg) (σ 2) (99 + 1)) (σ 2))) ++ post)) := by
  refine CTi.of (lv0 := [(0, .ref (h 0)), (1, .int o), (2, .int k)]) (by decide) rfl (Nat.le_of_ble_eq_true rfl) (fun p e s m args below meth c A C hr hlk => ?_)
  have C : Cx p s m args c cX5_webFor 3 RX5 ad D (tysW cs) A := C
  refine r_aload_n (pc := 0) C 0 dX5_webFor_0 rfl rfl ?_
  refine r_iload_n (pc := 1) C 1 dX5_webFor_1 rfl rfl ?_
  refine r_iload_n (pc := 2) C 2 dX5_webFor_2 rfl rfl ?_
  refine rc_Vi (pc := 3) C (t_X5_isAskable' l ad D cs h σ pre post (σ 0) (rfl) n o k hN hn) mv_X5_isAskable ml_RX5_170 rfl ⟨Nat.le_of_ble_eq_true rfl, Nat.le_of_ble_eq_true rfl⟩ ⟨rfl, rfl⟩ (q0 := 0) rfl rfl rfl rfl rfl rfl (Nat.le_of_ble_eq_true rfl) dX5_webFor_3 ?_
  refine r_if_eq (pc := 6) C 19 dX5_webFor_6 (by decide) (fun c_1 => ?_) (fun c_1 => ?_)
  · skip
    have c_1 := bI_0.mp c_1
    refine r_iconst (pc := 19) C (-1) dX5_webFor_19 (by decide) ?_
    exact r_iret (pc := 20) C hr hlk dX5_webFor_20 rfl (by first | rfl | (simp [gateI, gateF, *]; done) | simp_all [gateI, gateF]) (by rw [show (gateF (oneB n o && inB k 1 20) (itT (fun v_ => daysF n (upd (σ 0) (8 + 5 * o.toNatClampNeg + 3) (nI v_)) k.toNatClampNeg) (σ 2) (99 + 1)) (σ 2) : Nat → Int32) = σ 2 from (by first | rfl | (simp [gateI, gateF, *]; done) | simp_all [gateI, gateF])] <;> rfl)
  · skip
    have c_1 := bI_n.mp c_1
    obtain ⟨a_2, b_2⟩ := (Bool.and_eq_true _ _).mp c_1
    obtain ⟨j, h_j, rfl⟩ := one_nat (by omega) a_2
    have e_j : (nI j).toNatClampNeg = j := nI_clamp (by omega)
    obtain ⟨t, l_t, h_t, rfl⟩ := rng_nat 1 20 (by decide) (by decide) b_2
    have e_t : (nI t).toNatClampNeg = t := nI_clamp (by omega)
    refine r_aload_n (pc := 9) C 0 dX5_webFor_9 rfl rfl ?_
    refine r_iload_n (pc := 10) C 1 dX5_webFor_10 rfl rfl ?_
    refine r_iconst (pc := 11) C 3 dX5_webFor_11 (by decide) ?_
    refine r_iload_n (pc := 12) C 2 dX5_webFor_12 rfl rfl ?_
    refine rc_Vi (pc := 13) C (t_X5_bestTrait_3' l ad D cs h σ pre post (σ 0) (rfl) (σ 2) (rfl) n j t hN hn hR h_j (by omega)) mv_X5_bestTrait ml_RX5_173 rfl ⟨Nat.le_of_ble_eq_true rfl, Nat.le_of_ble_eq_true rfl⟩ ⟨rfl, rfl⟩ (q0 := 0) rfl rfl rfl rfl rfl rfl (Nat.le_of_ble_eq_true rfl) dX5_webFor_13 ?_
    refine r_goto (pc := 16) C 20 dX5_webFor_16 (by decide) ?_
    exact r_iret (pc := 20) C hr hlk dX5_webFor_20 rfl (by first | rfl | (simp [gateI, gateF, *]; done) | simp_all [gateI, gateF]) (by rw [show (gateF (oneB n (nI j) && inB (nI t) 1 20) (itT (fun v_ => daysF n (upd (σ 0) (8 + 5 * (nI j).toNatClampNeg + 3) (nI v_)) (nI t).toNatClampNeg) (σ 2) (99 + 1)) (σ 2) : Nat → Int32) = itT (fun v_ => daysF n (upd (σ 0) (8 + 5 * j + 3) (nI v_)) t) (σ 2) 100 from (by first | rfl | (simp [gateI, gateF, *]; done) | simp_all [gateI, gateF])] <;> rfl)
theorem t_X5_webFor' (l : Launch) (ad : Nat → Nat) (D : va_G) (cs : Nat → ClassId) (h : Nat → Nat) (σ : Nat → Nat → Int32) (pre post : va_W) (f0_ : Nat → Int32) (e0_ : σ 0 = f0_) (f2_ : Nat → Int32) (e2_ : σ 2 = f2_) (n : Nat) (o k : Int32) (hN : f0_ 0 = nI n) (hn : n ≤ 8) (hR : rgM n f0_) : CTi l yX5_webFor cX5_webFor 3 .int ({ frames := 7, cells := 0, slots := 0, locals := 165 }) ad D (tysW cs) (pre ++ (wX cs h σ ++ post)) [.ref (h 0), .int o, .int k] (gateI (oneB n o && inB k 1 20) (rbB n f0_ (8 + 5 * o.toNatClampNeg + 3) k.toNatClampNeg o.toNatClampNeg (99 + 1)) (-1)) (pre ++ (wX cs h (su σ 2 (gateF (oneB n o && inB k 1 20) (itT (fun v_ => daysF n (upd f0_ (8 + 5 * o.toNatClampNeg + 3) (nI v_)) k.toNatClampNeg) (f2_) (99 + 1)) (f2_))) ++ post)) := by
  subst e0_; subst e2_
  exact t_X5_webFor l ad D cs h σ pre post n o k hN hn hR
theorem dX5_kindFor_0 : decode cX5_kindFor 0 = .ok (.aload_n 0, 1) := by decide +kernel
theorem dX5_kindFor_1 : decode cX5_kindFor 1 = .ok (.iload_n 1, 1) := by decide +kernel
theorem dX5_kindFor_2 : decode cX5_kindFor 2 = .ok (.iload_n 2, 1) := by decide +kernel
theorem dX5_kindFor_3 : decode cX5_kindFor 3 = .ok (.invokevirtual 170, 3) := by decide +kernel
theorem dX5_kindFor_6 : decode cX5_kindFor 6 = .ok (.ifCond .eq 13, 3) := by decide +kernel
theorem dX5_kindFor_9 : decode cX5_kindFor 9 = .ok (.aload_n 0, 1) := by decide +kernel
theorem dX5_kindFor_10 : decode cX5_kindFor 10 = .ok (.iload_n 1, 1) := by decide +kernel
theorem dX5_kindFor_11 : decode cX5_kindFor 11 = .ok (.iconst 0, 1) := by decide +kernel
theorem dX5_kindFor_12 : decode cX5_kindFor 12 = .ok (.iload_n 2, 1) := by decide +kernel
theorem dX5_kindFor_13 : decode cX5_kindFor 13 = .ok (.invokevirtual 173, 3) := by decide +kernel
theorem dX5_kindFor_16 : decode cX5_kindFor 16 = .ok (.goto 4, 3) := by decide +kernel
theorem dX5_kindFor_19 : decode cX5_kindFor 19 = .ok (.iconst (-1), 1) := by decide +kernel
theorem dX5_kindFor_20 : decode cX5_kindFor 20 = .ok (.ireturn, 1) := by decide +kernel
set_option maxHeartbeats 400000 in
set_option maxRecDepth 20000 in
theorem t_X5_kindFor (l : Launch) (ad : Nat → Nat) (D : va_G) (cs : Nat → ClassId) (h : Nat → Nat) (σ : Nat → Nat → Int32) (pre post : va_W) (n : Nat) (o k : Int32) (hN : σ 0 0 = nI n) (hn : n ≤ 8) (hR : rgM n (σ 0)) : CTi l yX5_kindFor cX5_kindFor 3 .int ({ frames := 7, cells := 0, slots := 0, locals := 165 }) ad D (tysW cs) (pre ++ (wX cs h σ ++ post)) [.ref (h 0), .int o, .int k] (gateI (oneB n o && inB k 1 20) (rbB n (σ 0) (8 + 5 * o.toNatClampNeg) k.toNatClampNeg o.toNatClampNeg (5 + 1)) (-1)) (pre ++ (wX cs h (su σ 2 (gateF (oneB n o && inB k 1 20) (itT (fun v_ => daysF n (upd (σ 0) (8 + 5 * o.toNatClampNeg) (nI v_)) k.toNatClampNeg) (σ 2) (5 + 1)) (σ 2))) ++ post)) := by
  refine CTi.of (lv0 := [(0, .ref (h 0)), (1, .int o), (2, .int k)]) (by decide) rfl (Nat.le_of_ble_eq_true rfl) (fun p e s m args below meth c A C hr hlk => ?_)
  have C : Cx p s m args c cX5_kindFor 3 RX5 ad D (tysW cs) A := C
  refine r_aload_n (pc := 0) C 0 dX5_kindFor_0 rfl rfl ?_
  refine r_iload_n (pc := 1) C 1 dX5_kindFor_1 rfl rfl ?_
  refine r_iload_n (pc := 2) C 2 dX5_kindFor_2 rfl rfl ?_
  refine rc_Vi (pc := 3) C (t_X5_isAskable' l ad D cs h σ pre post (σ 0) (rfl) n o k hN hn) mv_X5_isAskable ml_RX5_170 rfl ⟨Nat.le_of_ble_eq_true rfl, Nat.le_of_ble_eq_true rfl⟩ ⟨rfl, rfl⟩ (q0 := 0) rfl rfl rfl rfl rfl rfl (Nat.le_of_ble_eq_true rfl) dX5_kindFor_3 ?_
  refine r_if_eq (pc := 6) C 19 dX5_kindFor_6 (by decide) (fun c_1 => ?_) (fun c_1 => ?_)
  · skip
    have c_1 := bI_0.mp c_1
    refine r_iconst (pc := 19) C (-1) dX5_kindFor_19 (by decide) ?_
    exact r_iret (pc := 20) C hr hlk dX5_kindFor_20 rfl (by first | rfl | (simp [gateI, gateF, *]; done) | simp_all [gateI, gateF]) (by rw [show (gateF (oneB n o && inB k 1 20) (itT (fun v_ => daysF n (upd (σ 0) (8 + 5 * o.toNatClampNeg) (nI v_)) k.toNatClampNeg) (σ 2) (5 + 1)) (σ 2) : Nat → Int32) = σ 2 from (by first | rfl | (simp [gateI, gateF, *]; done) | simp_all [gateI, gateF])] <;> rfl)
  · skip
    have c_1 := bI_n.mp c_1
    obtain ⟨a_2, b_2⟩ := (Bool.and_eq_true _ _).mp c_1
    obtain ⟨j, h_j, rfl⟩ := one_nat (by omega) a_2
    have e_j : (nI j).toNatClampNeg = j := nI_clamp (by omega)
    obtain ⟨t, l_t, h_t, rfl⟩ := rng_nat 1 20 (by decide) (by decide) b_2
    have e_t : (nI t).toNatClampNeg = t := nI_clamp (by omega)
    refine r_aload_n (pc := 9) C 0 dX5_kindFor_9 rfl rfl ?_
    refine r_iload_n (pc := 10) C 1 dX5_kindFor_10 rfl rfl ?_
    refine r_iconst (pc := 11) C 0 dX5_kindFor_11 (by decide) ?_
    refine r_iload_n (pc := 12) C 2 dX5_kindFor_12 rfl rfl ?_
    refine rc_Vi (pc := 13) C (t_X5_bestTrait_0' l ad D cs h σ pre post (σ 0) (rfl) (σ 2) (rfl) n j t hN hn hR h_j (by omega)) mv_X5_bestTrait ml_RX5_173 rfl ⟨Nat.le_of_ble_eq_true rfl, Nat.le_of_ble_eq_true rfl⟩ ⟨rfl, rfl⟩ (q0 := 0) rfl rfl rfl rfl rfl rfl (Nat.le_of_ble_eq_true rfl) dX5_kindFor_13 ?_
    refine r_goto (pc := 16) C 20 dX5_kindFor_16 (by decide) ?_
    exact r_iret (pc := 20) C hr hlk dX5_kindFor_20 rfl (by first | rfl | (simp [gateI, gateF, *]; done) | simp_all [gateI, gateF]) (by rw [show (gateF (oneB n (nI j) && inB (nI t) 1 20) (itT (fun v_ => daysF n (upd (σ 0) (8 + 5 * (nI j).toNatClampNeg) (nI v_)) (nI t).toNatClampNeg) (σ 2) (5 + 1)) (σ 2) : Nat → Int32) = itT (fun v_ => daysF n (upd (σ 0) (8 + 5 * j) (nI v_)) t) (σ 2) 6 from (by first | rfl | (simp [gateI, gateF, *]; done) | simp_all [gateI, gateF])] <;> rfl)
theorem t_X5_kindFor' (l : Launch) (ad : Nat → Nat) (D : va_G) (cs : Nat → ClassId) (h : Nat → Nat) (σ : Nat → Nat → Int32) (pre post : va_W) (f0_ : Nat → Int32) (e0_ : σ 0 = f0_) (f2_ : Nat → Int32) (e2_ : σ 2 = f2_) (n : Nat) (o k : Int32) (hN : f0_ 0 = nI n) (hn : n ≤ 8) (hR : rgM n f0_) : CTi l yX5_kindFor cX5_kindFor 3 .int ({ frames := 7, cells := 0, slots := 0, locals := 165 }) ad D (tysW cs) (pre ++ (wX cs h σ ++ post)) [.ref (h 0), .int o, .int k] (gateI (oneB n o && inB k 1 20) (rbB n f0_ (8 + 5 * o.toNatClampNeg) k.toNatClampNeg o.toNatClampNeg (5 + 1)) (-1)) (pre ++ (wX cs h (su σ 2 (gateF (oneB n o && inB k 1 20) (itT (fun v_ => daysF n (upd f0_ (8 + 5 * o.toNatClampNeg) (nI v_)) k.toNatClampNeg) (f2_) (5 + 1)) (f2_))) ++ post)) := by
  subst e0_; subst e2_
  exact t_X5_kindFor l ad D cs h σ pre post n o k hN hn hR
theorem dX5_wishFor_0 : decode cX5_wishFor 0 = .ok (.aload_n 0, 1) := by decide +kernel
theorem dX5_wishFor_1 : decode cX5_wishFor 1 = .ok (.iload_n 1, 1) := by decide +kernel
theorem dX5_wishFor_2 : decode cX5_wishFor 2 = .ok (.iload_n 2, 1) := by decide +kernel
theorem dX5_wishFor_3 : decode cX5_wishFor 3 = .ok (.invokevirtual 170, 3) := by decide +kernel
theorem dX5_wishFor_6 : decode cX5_wishFor 6 = .ok (.ifCond .eq 14, 3) := by decide +kernel
theorem dX5_wishFor_9 : decode cX5_wishFor 9 = .ok (.iload_n 3, 1) := by decide +kernel
theorem dX5_wishFor_10 : decode cX5_wishFor 10 = .ok (.iconst 0, 1) := by decide +kernel
theorem dX5_wishFor_11 : decode cX5_wishFor 11 = .ok (.sipush 9999, 3) := by decide +kernel
theorem dX5_wishFor_14 : decode cX5_wishFor 14 = .ok (.invokestatic 59, 3) := by decide +kernel
theorem dX5_wishFor_17 : decode cX5_wishFor 17 = .ok (.ifCond .ne 5, 3) := by decide +kernel
theorem dX5_wishFor_20 : decode cX5_wishFor 20 = .ok (.iconst (-1), 1) := by decide +kernel
theorem dX5_wishFor_21 : decode cX5_wishFor 21 = .ok (.ireturn, 1) := by decide +kernel
theorem dX5_wishFor_22 : decode cX5_wishFor 22 = .ok (.iconst 0, 1) := by decide +kernel
theorem dX5_wishFor_23 : decode cX5_wishFor 23 = .ok (.istore 4, 2) := by decide +kernel
theorem dX5_wishFor_25 : decode cX5_wishFor 25 = .ok (.iload 4, 2) := by decide +kernel
theorem dX5_wishFor_27 : decode cX5_wishFor 27 = .ok (.bipush 99, 2) := by decide +kernel
theorem dX5_wishFor_29 : decode cX5_wishFor 29 = .ok (.if_icmp .gt 25, 3) := by decide +kernel
theorem dX5_wishFor_32 : decode cX5_wishFor 32 = .ok (.aload_n 0, 1) := by decide +kernel
theorem dX5_wishFor_33 : decode cX5_wishFor 33 = .ok (.iload_n 1, 1) := by decide +kernel
theorem dX5_wishFor_34 : decode cX5_wishFor 34 = .ok (.iconst 2, 1) := by decide +kernel
theorem dX5_wishFor_35 : decode cX5_wishFor 35 = .ok (.iload 4, 2) := by decide +kernel
theorem dX5_wishFor_37 : decode cX5_wishFor 37 = .ok (.iload_n 2, 1) := by decide +kernel
theorem dX5_wishFor_38 : decode cX5_wishFor 38 = .ok (.invokevirtual 177, 3) := by decide +kernel
theorem dX5_wishFor_41 : decode cX5_wishFor 41 = .ok (.iload_n 3, 1) := by decide +kernel
theorem dX5_wishFor_42 : decode cX5_wishFor 42 = .ok (.if_icmp .lt 6, 3) := by decide +kernel
theorem dX5_wishFor_45 : decode cX5_wishFor 45 = .ok (.iload 4, 2) := by decide +kernel
theorem dX5_wishFor_47 : decode cX5_wishFor 47 = .ok (.ireturn, 1) := by decide +kernel
theorem dX5_wishFor_48 : decode cX5_wishFor 48 = .ok (.iinc 4 1, 3) := by decide +kernel
theorem dX5_wishFor_51 : decode cX5_wishFor 51 = .ok (.goto (-26), 3) := by decide +kernel
theorem dX5_wishFor_54 : decode cX5_wishFor 54 = .ok (.bipush (-3), 2) := by decide +kernel
theorem dX5_wishFor_56 : decode cX5_wishFor 56 = .ok (.ireturn, 1) := by decide +kernel
set_option maxHeartbeats 400000 in
set_option maxRecDepth 20000 in
theorem t_X5_wishFor (l : Launch) (ad : Nat → Nat) (D : va_G) (cs : Nat → ClassId) (h : Nat → Nat) (σ : Nat → Nat → Int32) (pre post : va_W) (n : Nat) (o k v : Int32) (hN : σ 0 0 = nI n) (hn : n ≤ 8) (hR : rgM n (σ 0)) : CTi l yX5_wishFor cX5_wishFor 5 .int ({ frames := 6, cells := 0, slots := 0, locals := 138 }) ad D (tysW cs) (pre ++ (wX cs h σ ++ post)) [.ref (h 0), .int o, .int k, .int v] (gateI (oneB n o && (inB k 1 20 && inB v 0 9999)) (fndP (fun t_ => decide (v ≤ purF n (upd (σ 0) (8 + 5 * o.toNatClampNeg + 2) (nI t_)) o.toNatClampNeg k.toNatClampNeg)) 0 100) (-1)) (pre ++ (wX cs h (su σ 2 (gateF (oneB n o && (inB k 1 20 && inB v 0 9999)) (itT (fun v_ => daysF n (upd (σ 0) (8 + 5 * o.toNatClampNeg + 2) (nI v_)) k.toNatClampNeg) (σ 2) (min (fnN (fun t_ => decide (v ≤ purF n (upd (σ 0) (8 + 5 * o.toNatClampNeg + 2) (nI t_)) o.toNatClampNeg k.toNatClampNeg)) 0 100 + 1) 100)) (σ 2))) ++ post)) := by
  refine CTi.of (lv0 := [(0, .ref (h 0)), (1, .int o), (2, .int k), (3, .int v)]) (by decide) rfl (Nat.le_of_ble_eq_true rfl) (fun p e s m args below meth c A C hr hlk => ?_)
  have C : Cx p s m args c cX5_wishFor 5 RX5 ad D (tysW cs) A := C
  refine r_aload_n (pc := 0) C 0 dX5_wishFor_0 rfl rfl ?_
  refine r_iload_n (pc := 1) C 1 dX5_wishFor_1 rfl rfl ?_
  refine r_iload_n (pc := 2) C 2 dX5_wishFor_2 rfl rfl ?_
  refine rc_Vi (pc := 3) C (t_X5_isAskable' l ad D cs h σ pre post (σ 0) (rfl) n o k hN hn) mv_X5_isAskable ml_RX5_170 rfl ⟨Nat.le_of_ble_eq_true rfl, Nat.le_of_ble_eq_true rfl⟩ ⟨rfl, rfl⟩ (q0 := 0) rfl rfl rfl rfl rfl rfl (Nat.le_of_ble_eq_true rfl) dX5_wishFor_3 ?_
  refine r_if_eq (pc := 6) C 20 dX5_wishFor_6 (by decide) (fun c_1 => ?_) (fun c_1 => ?_)
  · skip
    have c_1 := bI_0.mp c_1
    refine r_iconst (pc := 20) C (-1) dX5_wishFor_20 (by decide) ?_
    exact r_iret (pc := 21) C hr hlk dX5_wishFor_21 rfl (by first | (simp [gateI, *]; done) | simp_all [gateI]) (by rw [show gateF (_) (_) (σ 2) = σ 2 from (by first | (simp [gateF, *]; done) | simp_all [gateF])] <;> rfl)
  · skip
    have c_1 := bI_n.mp c_1
    obtain ⟨a_2, b_2⟩ := (Bool.and_eq_true _ _).mp c_1
    obtain ⟨j, h_j, rfl⟩ := one_nat (by omega) a_2
    have e_j : (nI j).toNatClampNeg = j := nI_clamp (by omega)
    obtain ⟨t, l_t, h_t, rfl⟩ := rng_nat 1 20 (by decide) (by decide) b_2
    have e_t : (nI t).toNatClampNeg = t := nI_clamp (by omega)
    refine r_iload_n (pc := 9) C 3 dX5_wishFor_9 rfl rfl ?_
    refine r_iconst (pc := 10) C 0 dX5_wishFor_10 (by decide) ?_
    refine r_sipush (pc := 11) C 9999 dX5_wishFor_11 (by decide) ?_
    refine rc_Si (pc := 14) C (t_X5_isWithin l ad D (tysW cs) (wX cs h σ) pre post  v (0 : Int32) (9999 : Int32) ) ms_X5_isWithin ml_RX5_59 rfl ⟨Nat.le_of_ble_eq_true rfl, Nat.le_of_ble_eq_true rfl⟩ ⟨rfl, rfl⟩ rfl rfl rfl (Nat.le_of_ble_eq_true rfl) dX5_wishFor_14 ?_
    refine r_if_ne (pc := 17) C 22 dX5_wishFor_17 (by decide) (fun c_3 => ?_) (fun c_3 => ?_)
    · skip
      have c_3 := bI_n.mp c_3
      refine r_iconst (pc := 22) C 0 dX5_wishFor_22 (by decide) ?_
      refine r_istore (pc := 23) C [(4, .int 0), (0, .ref (h 0)), (1, .int (nI j)), (2, .int (nI t)), (3, .int v)] dX5_wishFor_23 (by decide) rfl ?_
      refine r_pick (lv' := [(0, .ref (h 0)), (1, .int (nI j)), (2, .int (nI t)), (3, .int v), (4, .int 0)]) [1, 2, 3, 4, 0] rfl ?_
      refine r_blk (blk' := wX cs h (su σ 2 (itT (fun v_ => daysF n (upd (σ 0) (8 + 5 * j + 2) (nI v_)) t) (σ 2) 0))) (rfl) ?_
      refine r_loop (blkf := fun i => wX cs h (su σ 2 (itT (fun v_ => daysF n (upd (σ 0) (8 + 5 * j + 2) (nI v_)) t) (σ 2) i))) (lvf := fun i => [(0, .ref (h 0)), (1, .int (nI j)), (2, .int (nI t)), (3, .int v), (4, .int (nI i))]) (fun i => fndP (fun t_ => decide (v ≤ purF n (upd (σ 0) (8 + 5 * j + 2) (nI t_)) j t)) 0 100 = fndP (fun t_ => decide (v ≤ purF n (upd (σ 0) (8 + 5 * j + 2) (nI t_)) j t)) i (100 - i) ∧ fnN (fun t_ => decide (v ≤ purF n (upd (σ 0) (8 + 5 * j + 2) (nI t_)) j t)) 0 100 = fnN (fun t_ => decide (v ≤ purF n (upd (σ 0) (8 + 5 * j + 2) (nI t_)) j t)) i (100 - i)) 100 0 (by omega) (⟨rfl, rfl⟩) (fun i h_i hx ih_25 => ?_)
      show VX p l e _ s m args below meth c _ D A 5 pre (wX cs h (su σ 2 (itT (fun v_ => daysF n (upd (σ 0) (8 + 5 * j + 2) (nI v_)) t) (σ 2) i))) post 25 [(0, .ref (h 0)), (1, .int (nI j)), (2, .int (nI t)), (3, .int v), (4, .int (nI i))] []
      refine r_iload (pc := 25) C 4 dX5_wishFor_25 rfl ?_
      refine r_bipush (pc := 27) C 99 dX5_wishFor_27 (by decide) ?_
      refine r_icmp_gt (pc := 29) C 54 dX5_wishFor_29 (by decide) (fun c_4 => ?_) (fun c_4 => ?_)
      · skip
        have c_4 := nIc_gt_t (a := i) (b := 99) (by omega) (by omega) c_4
        obtain rfl : i = 100 := by omega
        refine r_bipush (pc := 54) C (-3) dX5_wishFor_54 (by decide) ?_
        exact r_iret (pc := 56) C hr hlk dX5_wishFor_56 rfl (by rw [gateI_t (by simp [*]), e_j, e_t, hx.1]; rfl) (by rw [show (gateF (oneB n (nI j) && (inB (nI t) 1 20 && inB v 0 9999)) (itT (fun v_ => daysF n (upd (σ 0) (8 + 5 * (nI j).toNatClampNeg + 2) (nI v_)) (nI t).toNatClampNeg) (σ 2) (min (fnN (fun t_ => decide (v ≤ purF n (upd (σ 0) (8 + 5 * (nI j).toNatClampNeg + 2) (nI t_)) (nI j).toNatClampNeg (nI t).toNatClampNeg)) 0 100 + 1) 100)) (σ 2) : Nat → Int32) = itT (fun v_ => daysF n (upd (σ 0) (8 + 5 * j + 2) (nI v_)) t) (σ 2) 100 from (by rw [gateF_t (by simp [*]), e_j, e_t, hx.2]; rfl)] <;> rfl)
      · skip
        have c_4 := nIc_gt_f (a := i) (b := 99) (by omega) (by omega) c_4
        refine r_aload_n (pc := 32) C 0 dX5_wishFor_32 rfl rfl ?_
        refine r_iload_n (pc := 33) C 1 dX5_wishFor_33 rfl rfl ?_
        refine r_iconst (pc := 34) C 2 dX5_wishFor_34 (by decide) ?_
        refine r_iload (pc := 35) C 4 dX5_wishFor_35 rfl ?_
        refine r_iload_n (pc := 37) C 2 dX5_wishFor_37 rfl rfl ?_
        refine rc_Vi (pc := 38) C (t_X5_purseWith_2' l ad D cs h (su σ 2 (itT (fun v_ => daysF n (upd (σ 0) (8 + 5 * j + 2) (nI v_)) t) (σ 2) i)) pre post (σ 0) ((su_nn (by decide))) n j i t hN hn hR h_j (by omega) (by omega)) mv_X5_purseWith ml_RX5_177 rfl ⟨Nat.le_of_ble_eq_true rfl, Nat.le_of_ble_eq_true rfl⟩ ⟨rfl, rfl⟩ (q0 := 0) rfl rfl rfl rfl rfl rfl (Nat.le_of_ble_eq_true rfl) dX5_wishFor_38 ?_
        refine r_blk (blk' := wX cs h (su σ 2 (daysF n (upd (σ 0) (8 + 5 * j + 2) (nI i)) t))) (congrArg (wX cs h) (by rw [su_su (k := 2)])) ?_
        refine r_iload_n (pc := 41) C 3 dX5_wishFor_41 rfl rfl ?_
        refine r_icmp_lt (pc := 42) C 48 dX5_wishFor_42 (by decide) (fun c_5 => ?_) (fun c_5 => ?_)
        · skip
          refine r_iinc (pc := 48) C (nI (i + 1)) 4 [(4, .int (nI (i + 1))), (0, .ref (h 0)), (1, .int (nI j)), (2, .int (nI t)), (3, .int v)] dX5_wishFor_48 rfl (nI_1 _) (by decide) rfl ?_
          refine r_goto (pc := 51) C 25 dX5_wishFor_51 (by decide) ?_
          refine r_pick (lv' := [(0, .ref (h 0)), (1, .int (nI j)), (2, .int (nI t)), (3, .int v), (4, .int (nI (i + 1)))]) [1, 2, 3, 4, 0] rfl ?_
          refine r_blk (blk' := wX cs h (su σ 2 (itT (fun v_ => daysF n (upd (σ 0) (8 + 5 * j + 2) (nI v_)) t) (σ 2) (i + 1)))) (rfl) ?_
          exact ih_25 (by omega) (⟨hx.1.trans (fnd_next (by omega) (decide_eq_false (Int32.not_le.mpr ‹_›))), hx.2.trans (fn_next (by omega) (decide_eq_false (Int32.not_le.mpr ‹_›)))⟩)
        · skip
          refine r_iload (pc := 45) C 4 dX5_wishFor_45 rfl ?_
          exact r_iret (pc := 47) C hr hlk dX5_wishFor_47 rfl (by rw [gateI_t (by simp [*]), e_j, e_t, hx.1]; exact (fnd_hit (by omega) (decide_eq_true (Int32.not_lt.mp ‹_›))).symm) (by rw [show (gateF (oneB n (nI j) && (inB (nI t) 1 20 && inB v 0 9999)) (itT (fun v_ => daysF n (upd (σ 0) (8 + 5 * (nI j).toNatClampNeg + 2) (nI v_)) (nI t).toNatClampNeg) (σ 2) (min (fnN (fun t_ => decide (v ≤ purF n (upd (σ 0) (8 + 5 * (nI j).toNatClampNeg + 2) (nI t_)) (nI j).toNatClampNeg (nI t).toNatClampNeg)) 0 100 + 1) 100)) (σ 2) : Nat → Int32) = daysF n (upd (σ 0) (8 + 5 * j + 2) (nI i)) t from (by rw [gateF_t (by simp [*]), e_j, e_t, hx.2, fn_hit (by omega) (decide_eq_true (Int32.not_lt.mp ‹_›)), show min (i + 1) 100 = i + 1 by omega]; rfl)] <;> rfl)
    · skip
      have c_3 := bI_0.mp c_3
      refine r_iconst (pc := 20) C (-1) dX5_wishFor_20 (by decide) ?_
      exact r_iret (pc := 21) C hr hlk dX5_wishFor_21 rfl (by first | (simp [gateI, *]; done) | simp_all [gateI]) (by rw [show gateF (_) (_) (σ 2) = σ 2 from (by first | (simp [gateF, *]; done) | simp_all [gateF])] <;> rfl)
theorem t_X5_wishFor' (l : Launch) (ad : Nat → Nat) (D : va_G) (cs : Nat → ClassId) (h : Nat → Nat) (σ : Nat → Nat → Int32) (pre post : va_W) (f0_ : Nat → Int32) (e0_ : σ 0 = f0_) (f2_ : Nat → Int32) (e2_ : σ 2 = f2_) (n : Nat) (o k v : Int32) (hN : f0_ 0 = nI n) (hn : n ≤ 8) (hR : rgM n f0_) : CTi l yX5_wishFor cX5_wishFor 5 .int ({ frames := 6, cells := 0, slots := 0, locals := 138 }) ad D (tysW cs) (pre ++ (wX cs h σ ++ post)) [.ref (h 0), .int o, .int k, .int v] (gateI (oneB n o && (inB k 1 20 && inB v 0 9999)) (fndP (fun t_ => decide (v ≤ purF n (upd f0_ (8 + 5 * o.toNatClampNeg + 2) (nI t_)) o.toNatClampNeg k.toNatClampNeg)) 0 100) (-1)) (pre ++ (wX cs h (su σ 2 (gateF (oneB n o && (inB k 1 20 && inB v 0 9999)) (itT (fun v_ => daysF n (upd f0_ (8 + 5 * o.toNatClampNeg + 2) (nI v_)) k.toNatClampNeg) (f2_) (min (fnN (fun t_ => decide (v ≤ purF n (upd f0_ (8 + 5 * o.toNatClampNeg + 2) (nI t_)) o.toNatClampNeg k.toNatClampNeg)) 0 100 + 1) 100)) (f2_))) ++ post)) := by
  subst e0_; subst e2_
  exact t_X5_wishFor l ad D cs h σ pre post n o k v hN hn hR
theorem dX5_changeFor_0 : decode cX5_changeFor 0 = .ok (.aload_n 0, 1) := by decide +kernel
theorem dX5_changeFor_1 : decode cX5_changeFor 1 = .ok (.iload_n 1, 1) := by decide +kernel
theorem dX5_changeFor_2 : decode cX5_changeFor 2 = .ok (.iload_n 2, 1) := by decide +kernel
theorem dX5_changeFor_3 : decode cX5_changeFor 3 = .ok (.invokevirtual 170, 3) := by decide +kernel
theorem dX5_changeFor_6 : decode cX5_changeFor 6 = .ok (.ifCond .ne 5, 3) := by decide +kernel
theorem dX5_changeFor_9 : decode cX5_changeFor 9 = .ok (.iconst (-1), 1) := by decide +kernel
theorem dX5_changeFor_10 : decode cX5_changeFor 10 = .ok (.ireturn, 1) := by decide +kernel
theorem dX5_changeFor_11 : decode cX5_changeFor 11 = .ok (.aload_n 0, 1) := by decide +kernel
theorem dX5_changeFor_12 : decode cX5_changeFor 12 = .ok (.iload_n 1, 1) := by decide +kernel
theorem dX5_changeFor_13 : decode cX5_changeFor 13 = .ok (.iload_n 2, 1) := by decide +kernel
theorem dX5_changeFor_14 : decode cX5_changeFor 14 = .ok (.invokevirtual 152, 3) := by decide +kernel
theorem dX5_changeFor_17 : decode cX5_changeFor 17 = .ok (.istore_n 3, 1) := by decide +kernel
theorem dX5_changeFor_18 : decode cX5_changeFor 18 = .ok (.bipush (-3), 2) := by decide +kernel
theorem dX5_changeFor_20 : decode cX5_changeFor 20 = .ok (.istore 4, 2) := by decide +kernel
theorem dX5_changeFor_22 : decode cX5_changeFor 22 = .ok (.iconst 0, 1) := by decide +kernel
theorem dX5_changeFor_23 : decode cX5_changeFor 23 = .ok (.istore 5, 2) := by decide +kernel
theorem dX5_changeFor_25 : decode cX5_changeFor 25 = .ok (.iload 5, 2) := by decide +kernel
theorem dX5_changeFor_27 : decode cX5_changeFor 27 = .ok (.aload_n 0, 1) := by decide +kernel
theorem dX5_changeFor_28 : decode cX5_changeFor 28 = .ok (.getfield 10, 3) := by decide +kernel
theorem dX5_changeFor_31 : decode cX5_changeFor 31 = .ok (.getfield 88, 3) := by decide +kernel
theorem dX5_changeFor_34 : decode cX5_changeFor 34 = .ok (.if_icmp .ge 38, 3) := by decide +kernel
theorem dX5_changeFor_37 : decode cX5_changeFor 37 = .ok (.iload 5, 2) := by decide +kernel
theorem dX5_changeFor_39 : decode cX5_changeFor 39 = .ok (.iload_n 1, 1) := by decide +kernel
theorem dX5_changeFor_40 : decode cX5_changeFor 40 = .ok (.if_icmp .eq 26, 3) := by decide +kernel
theorem dX5_changeFor_43 : decode cX5_changeFor 43 = .ok (.aload_n 0, 1) := by decide +kernel
theorem dX5_changeFor_44 : decode cX5_changeFor 44 = .ok (.iload_n 1, 1) := by decide +kernel
theorem dX5_changeFor_45 : decode cX5_changeFor 45 = .ok (.iload 5, 2) := by decide +kernel
theorem dX5_changeFor_47 : decode cX5_changeFor 47 = .ok (.iload_n 2, 1) := by decide +kernel
theorem dX5_changeFor_48 : decode cX5_changeFor 48 = .ok (.invokevirtual 181, 3) := by decide +kernel
theorem dX5_changeFor_51 : decode cX5_changeFor 51 = .ok (.istore 6, 2) := by decide +kernel
theorem dX5_changeFor_53 : decode cX5_changeFor 53 = .ok (.iload 6, 2) := by decide +kernel
theorem dX5_changeFor_55 : decode cX5_changeFor 55 = .ok (.iload_n 3, 1) := by decide +kernel
theorem dX5_changeFor_56 : decode cX5_changeFor 56 = .ok (.if_icmp .le 10, 3) := by decide +kernel
theorem dX5_changeFor_59 : decode cX5_changeFor 59 = .ok (.iload 6, 2) := by decide +kernel
theorem dX5_changeFor_61 : decode cX5_changeFor 61 = .ok (.istore_n 3, 1) := by decide +kernel
theorem dX5_changeFor_62 : decode cX5_changeFor 62 = .ok (.iload 5, 2) := by decide +kernel
theorem dX5_changeFor_64 : decode cX5_changeFor 64 = .ok (.istore 4, 2) := by decide +kernel
theorem dX5_changeFor_66 : decode cX5_changeFor 66 = .ok (.iinc 5 1, 3) := by decide +kernel
theorem dX5_changeFor_69 : decode cX5_changeFor 69 = .ok (.goto (-44), 3) := by decide +kernel
theorem dX5_changeFor_72 : decode cX5_changeFor 72 = .ok (.iload 4, 2) := by decide +kernel
theorem dX5_changeFor_74 : decode cX5_changeFor 74 = .ok (.ireturn, 1) := by decide +kernel
set_option maxHeartbeats 400000 in
set_option maxRecDepth 20000 in
theorem t_X5_changeFor (l : Launch) (ad : Nat → Nat) (D : va_G) (cs : Nat → ClassId) (h : Nat → Nat) (σ : Nat → Nat → Int32) (pre post : va_W) (n : Nat) (o k : Int32) (hN : σ 0 0 = nI n) (hn : n ≤ 8) (hR : rgM n (σ 0)) : CTi l yX5_changeFor cX5_changeFor 7 .int ({ frames := 6, cells := 0, slots := 0, locals := 137 }) ad D (tysW cs) (pre ++ (wX cs h σ ++ post)) [.ref (h 0), .int o, .int k] (gateI (oneB n o && inB k 1 20) (cfB n (σ 0) o.toNatClampNeg k.toNatClampNeg n) (-1)) (pre ++ (wX cs h (su σ 2 (gateF (oneB n o && inB k 1 20) (cfT n (σ 0) o.toNatClampNeg k.toNatClampNeg n) (σ 2))) ++ post)) := by
  refine CTi.of (lv0 := [(0, .ref (h 0)), (1, .int o), (2, .int k)]) (by decide) rfl (Nat.le_of_ble_eq_true rfl) (fun p e s m args below meth c A C hr hlk => ?_)
  have C : Cx p s m args c cX5_changeFor 7 RX5 ad D (tysW cs) A := C
  refine r_aload_n (pc := 0) C 0 dX5_changeFor_0 rfl rfl ?_
  refine r_iload_n (pc := 1) C 1 dX5_changeFor_1 rfl rfl ?_
  refine r_iload_n (pc := 2) C 2 dX5_changeFor_2 rfl rfl ?_
  refine rc_Vi (pc := 3) C (t_X5_isAskable' l ad D cs h σ pre post (σ 0) (rfl) n o k hN hn) mv_X5_isAskable ml_RX5_170 rfl ⟨Nat.le_of_ble_eq_true rfl, Nat.le_of_ble_eq_true rfl⟩ ⟨rfl, rfl⟩ (q0 := 0) rfl rfl rfl rfl rfl rfl (Nat.le_of_ble_eq_true rfl) dX5_changeFor_3 ?_
  refine r_if_ne (pc := 6) C 11 dX5_changeFor_6 (by decide) (fun c_1 => ?_) (fun c_1 => ?_)
  · skip
    have c_1 := bI_n.mp c_1
    obtain ⟨a_2, b_2⟩ := (Bool.and_eq_true _ _).mp c_1
    obtain ⟨j, h_j, rfl⟩ := one_nat (by omega) a_2
    have e_j : (nI j).toNatClampNeg = j := nI_clamp (by omega)
    obtain ⟨t, l_t, h_t, rfl⟩ := rng_nat 1 20 (by decide) (by decide) b_2
    have e_t : (nI t).toNatClampNeg = t := nI_clamp (by omega)
    refine r_aload_n (pc := 11) C 0 dX5_changeFor_11 rfl rfl ?_
    refine r_iload_n (pc := 12) C 1 dX5_changeFor_12 rfl rfl ?_
    refine r_iload_n (pc := 13) C 2 dX5_changeFor_13 rfl rfl ?_
    refine rc_Vi (pc := 14) C (t_X5_purseFromNow' l ad D cs h σ pre post (σ 0) (rfl) n j t hN hn hR h_j (by omega)) mv_X5_purseFromNow ml_RX5_152 rfl ⟨Nat.le_of_ble_eq_true rfl, Nat.le_of_ble_eq_true rfl⟩ ⟨rfl, rfl⟩ (q0 := 0) rfl rfl rfl rfl rfl rfl (Nat.le_of_ble_eq_true rfl) dX5_changeFor_14 ?_
    refine r_istore_n (pc := 17) C [(3, .int (purF n (σ 0) j t)), (0, .ref (h 0)), (1, .int (nI j)), (2, .int (nI t))] dX5_changeFor_17 rfl (by decide) rfl ?_
    refine r_bipush (pc := 18) C (-3) dX5_changeFor_18 (by decide) ?_
    refine r_istore (pc := 20) C [(4, .int (-3)), (3, .int (purF n (σ 0) j t)), (0, .ref (h 0)), (1, .int (nI j)), (2, .int (nI t))] dX5_changeFor_20 (by decide) rfl ?_
    refine r_iconst (pc := 22) C 0 dX5_changeFor_22 (by decide) ?_
    refine r_istore (pc := 23) C [(5, .int 0), (4, .int (-3)), (3, .int (purF n (σ 0) j t)), (0, .ref (h 0)), (1, .int (nI j)), (2, .int (nI t))] dX5_changeFor_23 (by decide) rfl ?_
    refine r_pick (lv' := [(0, .ref (h 0)), (1, .int (nI j)), (2, .int (nI t)), (3, .int (purF n (σ 0) j t)), (4, .int (-3)), (5, .int 0)]) [3, 4, 5, 2, 1, 0] rfl ?_
    refine r_lv (lv' := [(0, .ref (h 0)), (1, .int (nI j)), (2, .int (nI t)), (3, .int (cfM n (σ 0) j t 0)), (4, .int (cfB n (σ 0) j t 0)), (5, .int 0)]) (rfl) ?_
    refine r_blk (blk' := wX cs h (su σ 2 (cfT n (σ 0) j t 0))) (rfl) ?_
    refine r_loop (blkf := fun i => wX cs h (su σ 2 (cfT n (σ 0) j t i))) (lvf := fun i => [(0, .ref (h 0)), (1, .int (nI j)), (2, .int (nI t)), (3, .int (cfM n (σ 0) j t i)), (4, .int (cfB n (σ 0) j t i)), (5, .int (nI i))]) (fun i => True) n 0 (by omega) (trivial) (fun i h_i _ ih_25 => ?_)
    show VX p l e _ s m args below meth c _ D A 7 pre (wX cs h (su σ 2 (cfT n (σ 0) j t i))) post 25 [(0, .ref (h 0)), (1, .int (nI j)), (2, .int (nI t)), (3, .int (cfM n (σ 0) j t i)), (4, .int (cfB n (σ 0) j t i)), (5, .int (nI i))] []
    refine r_iload (pc := 25) C 5 dX5_changeFor_25 rfl ?_
    refine r_aload_n (pc := 27) C 0 dX5_changeFor_27 rfl rfl ?_
    refine xg_now (pc := 28) C fl_RX5_10 dX5_changeFor_28 ?_
    refine xg_count_0 (pc := 31) C fl_RX5_88 dX5_changeFor_31 (σ 0 0) (congrFun ((su_nn (by decide))) 0) ?_
    refine r_eqi (y := nI n) (hN) ?_
    refine r_icmp_ge (pc := 34) C 72 dX5_changeFor_34 (by decide) (fun c_3 => ?_) (fun c_3 => ?_)
    · skip
      have c_3 := nIc_ge_t (a := i) (b := n) (by omega) (by omega) c_3
      obtain rfl : n = i := by omega
      refine r_iload (pc := 72) C 4 dX5_changeFor_72 rfl ?_
      exact r_iret (pc := 74) C hr hlk dX5_changeFor_74 rfl (by first | rfl | (simp [gateI, gateF, *]; done) | simp_all [gateI, gateF]) (by rw [show (gateF (oneB n (nI j) && inB (nI t) 1 20) (cfT n (σ 0) (nI j).toNatClampNeg (nI t).toNatClampNeg n) (σ 2) : Nat → Int32) = cfT n (σ 0) j t n from (by first | rfl | (simp [gateI, gateF, *]; done) | simp_all [gateI, gateF])] <;> rfl)
    · skip
      have c_3 := nIc_ge_f (a := i) (b := n) (by omega) (by omega) c_3
      refine r_iload (pc := 37) C 5 dX5_changeFor_37 rfl ?_
      refine r_iload_n (pc := 39) C 1 dX5_changeFor_39 rfl rfl ?_
      refine r_icmp_eq (pc := 40) C 66 dX5_changeFor_40 (by decide) (fun c_4 => ?_) (fun c_4 => ?_)
      · skip
        have c_4 := nIc_eq_t (a := i) (b := j) (by omega) (by omega) c_4
        refine r_iinc (pc := 66) C (nI (i + 1)) 5 [(5, .int (nI (i + 1))), (0, .ref (h 0)), (1, .int (nI j)), (2, .int (nI t)), (3, .int (cfM n (σ 0) j t i)), (4, .int (cfB n (σ 0) j t i))] dX5_changeFor_66 rfl (nI_1 _) (by decide) rfl ?_
        refine r_goto (pc := 69) C 25 dX5_changeFor_69 (by decide) ?_
        refine r_pick (lv' := [(0, .ref (h 0)), (1, .int (nI j)), (2, .int (nI t)), (3, .int (cfM n (σ 0) j t i)), (4, .int (cfB n (σ 0) j t i)), (5, .int (nI (i + 1)))]) [1, 2, 3, 4, 5, 0] rfl ?_
        refine r_lv (lv' := [(0, .ref (h 0)), (1, .int (nI j)), (2, .int (nI t)), (3, .int (cfM n (σ 0) j t (i + 1))), (4, .int (cfB n (σ 0) j t (i + 1))), (5, .int (nI (i + 1)))]) (lvc rfl (lvc rfl (lvc rfl (lvc (congrArg Value.int (show (cfM n (σ 0) j t i : Int32) = cfM n (σ 0) j t (i + 1) from (if_pos ‹i = j›).symm)) (lvc (congrArg Value.int (show (cfB n (σ 0) j t i : Int32) = cfB n (σ 0) j t (i + 1) from (if_pos ‹i = j›).symm)) (lvc rfl rfl)))))) ?_
        refine r_blk (blk' := wX cs h (su σ 2 (cfT n (σ 0) j t (i + 1)))) (by rw [show (cfT n (σ 0) j t (i + 1) : Nat → Int32) = cfT n (σ 0) j t i from Eq.symm ((if_pos ‹i = j›).symm)] <;> rfl) ?_
        exact ih_25 (by omega) (trivial)
      · skip
        have c_4 := nIc_eq_f (a := i) (b := j) (by omega) (by omega) c_4
        have hcf : ¬ i = j := c_4
        refine r_aload_n (pc := 43) C 0 dX5_changeFor_43 rfl rfl ?_
        refine r_iload_n (pc := 44) C 1 dX5_changeFor_44 rfl rfl ?_
        refine r_iload (pc := 45) C 5 dX5_changeFor_45 rfl ?_
        refine r_iload_n (pc := 47) C 2 dX5_changeFor_47 rfl rfl ?_
        refine rc_Vi (pc := 48) C (t_X5_purseInPlaceOf' l ad D cs h (su σ 2 (cfT n (σ 0) j t i)) pre post (σ 0) ((su_nn (by decide))) n j i t hN hn hR h_j (by omega) (fun q_ => ‹¬ i = j› q_.symm) (by omega)) mv_X5_purseInPlaceOf ml_RX5_181 rfl ⟨Nat.le_of_ble_eq_true rfl, Nat.le_of_ble_eq_true rfl⟩ ⟨rfl, rfl⟩ (q0 := 0) rfl rfl rfl rfl rfl rfl (Nat.le_of_ble_eq_true rfl) dX5_changeFor_48 ?_
        refine r_blk (blk' := wX cs h (su σ 2 (daysF n (chgF (σ 0) j i 5) t))) (congrArg (wX cs h) (by rw [su_su (k := 2)])) ?_
        refine r_istore (pc := 51) C [(6, .int (purF n (chgF (σ 0) j i 5) i t)), (0, .ref (h 0)), (1, .int (nI j)), (2, .int (nI t)), (3, .int (cfM n (σ 0) j t i)), (4, .int (cfB n (σ 0) j t i)), (5, .int (nI i))] dX5_changeFor_51 (by decide) rfl ?_
        refine r_iload (pc := 53) C 0 dX5_changeFor_53 rfl ?_
        refine r_iload_n (pc := 55) C 4 dX5_changeFor_55 rfl rfl ?_
        refine r_icmp_le (pc := 56) C 66 dX5_changeFor_56 (by decide) (fun c_5 => ?_) (fun c_5 => ?_)
        · skip
          refine r_iinc (pc := 66) C (nI (i + 1)) 6 [(5, .int (nI (i + 1))), (6, .int (purF n (chgF (σ 0) j i 5) i t)), (0, .ref (h 0)), (1, .int (nI j)), (2, .int (nI t)), (3, .int (cfM n (σ 0) j t i)), (4, .int (cfB n (σ 0) j t i))] dX5_changeFor_66 rfl (nI_1 _) (by decide) rfl ?_
          refine r_goto (pc := 69) C 25 dX5_changeFor_69 (by decide) ?_
          refine r_pick (lv' := [(0, .ref (h 0)), (1, .int (nI j)), (2, .int (nI t)), (3, .int (cfM n (σ 0) j t i)), (4, .int (cfB n (σ 0) j t i)), (5, .int (nI (i + 1)))]) [2, 3, 4, 5, 6, 0] rfl ?_
          refine r_lv (lv' := [(0, .ref (h 0)), (1, .int (nI j)), (2, .int (nI t)), (3, .int (cfM n (σ 0) j t (i + 1))), (4, .int (cfB n (σ 0) j t (i + 1))), (5, .int (nI (i + 1)))]) (lvc rfl (lvc rfl (lvc rfl (lvc (congrArg Value.int (show (cfM n (σ 0) j t i : Int32) = cfM n (σ 0) j t (i + 1) from ((if_neg ‹¬ i = j›).trans (mx_l ‹_›).symm).symm)) (lvc (congrArg Value.int (show (cfB n (σ 0) j t i : Int32) = cfB n (σ 0) j t (i + 1) from ((if_neg ‹¬ i = j›).trans (if_pos ‹_›)).symm)) (lvc rfl rfl)))))) ?_
          refine r_blk (blk' := wX cs h (su σ 2 (cfT n (σ 0) j t (i + 1)))) (by rw [show (cfT n (σ 0) j t (i + 1) : Nat → Int32) = daysF n (chgF (σ 0) j i 5) t from Eq.symm ((if_neg ‹¬ i = j›).symm)] <;> rfl) ?_
          exact ih_25 (by omega) (trivial)
        · skip
          refine r_iload (pc := 59) C 0 dX5_changeFor_59 rfl ?_
          refine r_istore_n (pc := 61) C [(3, .int (purF n (chgF (σ 0) j i 5) i t)), (6, .int (purF n (chgF (σ 0) j i 5) i t)), (0, .ref (h 0)), (1, .int (nI j)), (2, .int (nI t)), (4, .int (cfB n (σ 0) j t i)), (5, .int (nI i))] dX5_changeFor_61 rfl (by decide) rfl ?_
          refine r_iload (pc := 62) C 6 dX5_changeFor_62 rfl ?_
          refine r_istore (pc := 64) C [(4, .int (nI i)), (3, .int (purF n (chgF (σ 0) j i 5) i t)), (6, .int (purF n (chgF (σ 0) j i 5) i t)), (0, .ref (h 0)), (1, .int (nI j)), (2, .int (nI t)), (5, .int (nI i))] dX5_changeFor_64 (by decide) rfl ?_
          refine r_iinc (pc := 66) C (nI (i + 1)) 6 [(5, .int (nI (i + 1))), (4, .int (nI i)), (3, .int (purF n (chgF (σ 0) j i 5) i t)), (6, .int (purF n (chgF (σ 0) j i 5) i t)), (0, .ref (h 0)), (1, .int (nI j)), (2, .int (nI t))] dX5_changeFor_66 rfl (nI_1 _) (by decide) rfl ?_
          refine r_goto (pc := 69) C 25 dX5_changeFor_69 (by decide) ?_
          refine r_pick (lv' := [(0, .ref (h 0)), (1, .int (nI j)), (2, .int (nI t)), (3, .int (purF n (chgF (σ 0) j i 5) i t)), (4, .int (nI i)), (5, .int (nI (i + 1)))]) [4, 5, 6, 2, 1, 0] rfl ?_
          refine r_lv (lv' := [(0, .ref (h 0)), (1, .int (nI j)), (2, .int (nI t)), (3, .int (cfM n (σ 0) j t (i + 1))), (4, .int (cfB n (σ 0) j t (i + 1))), (5, .int (nI (i + 1)))]) (lvc rfl (lvc rfl (lvc rfl (lvc (congrArg Value.int (show (purF n (chgF (σ 0) j i 5) i t : Int32) = cfM n (σ 0) j t (i + 1) from ((if_neg ‹¬ i = j›).trans (mx_r ‹_›).symm).symm)) (lvc (congrArg Value.int (show (nI i : Int32) = cfB n (σ 0) j t (i + 1) from ((if_neg ‹¬ i = j›).trans (if_neg ‹_›)).symm)) (lvc rfl rfl)))))) ?_
          refine r_blk (blk' := wX cs h (su σ 2 (cfT n (σ 0) j t (i + 1)))) (by rw [show (cfT n (σ 0) j t (i + 1) : Nat → Int32) = daysF n (chgF (σ 0) j i 5) t from Eq.symm ((if_neg ‹¬ i = j›).symm)] <;> rfl) ?_
          exact ih_25 (by omega) (trivial)
  · skip
    have c_1 := bI_0.mp c_1
    refine r_iconst (pc := 9) C (-1) dX5_changeFor_9 (by decide) ?_
    exact r_iret (pc := 10) C hr hlk dX5_changeFor_10 rfl (by first | rfl | (simp [gateI, gateF, *]; done) | simp_all [gateI, gateF]) (by rw [show (gateF (oneB n o && inB k 1 20) (cfT n (σ 0) o.toNatClampNeg k.toNatClampNeg n) (σ 2) : Nat → Int32) = σ 2 from (by first | rfl | (simp [gateI, gateF, *]; done) | simp_all [gateI, gateF])] <;> rfl)
theorem t_X5_changeFor' (l : Launch) (ad : Nat → Nat) (D : va_G) (cs : Nat → ClassId) (h : Nat → Nat) (σ : Nat → Nat → Int32) (pre post : va_W) (f0_ : Nat → Int32) (e0_ : σ 0 = f0_) (f2_ : Nat → Int32) (e2_ : σ 2 = f2_) (n : Nat) (o k : Int32) (hN : f0_ 0 = nI n) (hn : n ≤ 8) (hR : rgM n f0_) : CTi l yX5_changeFor cX5_changeFor 7 .int ({ frames := 6, cells := 0, slots := 0, locals := 137 }) ad D (tysW cs) (pre ++ (wX cs h σ ++ post)) [.ref (h 0), .int o, .int k] (gateI (oneB n o && inB k 1 20) (cfB n f0_ o.toNatClampNeg k.toNatClampNeg n) (-1)) (pre ++ (wX cs h (su σ 2 (gateF (oneB n o && inB k 1 20) (cfT n f0_ o.toNatClampNeg k.toNatClampNeg n) (f2_))) ++ post)) := by
  subst e0_; subst e2_
  exact t_X5_changeFor l ad D cs h σ pre post n o k hN hn hR
theorem dX5_fewestDays_0 : decode cX5_fewestDays 0 = .ok (.aload_n 0, 1) := by decide +kernel
theorem dX5_fewestDays_1 : decode cX5_fewestDays 1 = .ok (.getfield 16, 3) := by decide +kernel
theorem dX5_fewestDays_4 : decode cX5_fewestDays 4 = .ok (.aload_n 0, 1) := by decide +kernel
theorem dX5_fewestDays_5 : decode cX5_fewestDays 5 = .ok (.getfield 10, 3) := by decide +kernel
theorem dX5_fewestDays_8 : decode cX5_fewestDays 8 = .ok (.invokevirtual 81, 3) := by decide +kernel
theorem dX5_fewestDays_11 : decode cX5_fewestDays 11 = .ok (.iconst 0, 1) := by decide +kernel
theorem dX5_fewestDays_12 : decode cX5_fewestDays 12 = .ok (.istore_n 3, 1) := by decide +kernel
theorem dX5_fewestDays_13 : decode cX5_fewestDays 13 = .ok (.iload_n 3, 1) := by decide +kernel
theorem dX5_fewestDays_14 : decode cX5_fewestDays 14 = .ok (.bipush 60, 2) := by decide +kernel
theorem dX5_fewestDays_16 : decode cX5_fewestDays 16 = .ok (.if_icmp .gt 31, 3) := by decide +kernel
theorem dX5_fewestDays_19 : decode cX5_fewestDays 19 = .ok (.aload_n 0, 1) := by decide +kernel
theorem dX5_fewestDays_20 : decode cX5_fewestDays 20 = .ok (.getfield 16, 3) := by decide +kernel
theorem dX5_fewestDays_23 : decode cX5_fewestDays 23 = .ok (.iload_n 1, 1) := by decide +kernel
theorem dX5_fewestDays_24 : decode cX5_fewestDays 24 = .ok (.iload_n 2, 1) := by decide +kernel
theorem dX5_fewestDays_25 : decode cX5_fewestDays 25 = .ok (.invokevirtual 312, 3) := by decide +kernel
theorem dX5_fewestDays_28 : decode cX5_fewestDays 28 = .ok (.ifCond .eq 5, 3) := by decide +kernel
theorem dX5_fewestDays_31 : decode cX5_fewestDays 31 = .ok (.iload_n 3, 1) := by decide +kernel
theorem dX5_fewestDays_32 : decode cX5_fewestDays 32 = .ok (.ireturn, 1) := by decide +kernel
theorem dX5_fewestDays_33 : decode cX5_fewestDays 33 = .ok (.aload_n 0, 1) := by decide +kernel
theorem dX5_fewestDays_34 : decode cX5_fewestDays 34 = .ok (.getfield 16, 3) := by decide +kernel
theorem dX5_fewestDays_37 : decode cX5_fewestDays 37 = .ok (.iconst 1, 1) := by decide +kernel
theorem dX5_fewestDays_38 : decode cX5_fewestDays 38 = .ok (.invokevirtual 142, 3) := by decide +kernel
theorem dX5_fewestDays_41 : decode cX5_fewestDays 41 = .ok (.iinc 3 1, 3) := by decide +kernel
theorem dX5_fewestDays_44 : decode cX5_fewestDays 44 = .ok (.goto (-31), 3) := by decide +kernel
theorem dX5_fewestDays_47 : decode cX5_fewestDays 47 = .ok (.bipush (-3), 2) := by decide +kernel
theorem dX5_fewestDays_49 : decode cX5_fewestDays 49 = .ok (.ireturn, 1) := by decide +kernel
set_option maxHeartbeats 400000 in
set_option maxRecDepth 20000 in
theorem t_X5_fewestDays_0 (l : Launch) (ad : Nat → Nat) (D : va_G) (cs : Nat → ClassId) (h : Nat → Nat) (σ : Nat → Nat → Int32) (pre post : va_W) (n : Nat) (o : Nat) (hN : σ 0 0 = nI n) (hn : n ≤ 8) (hR : rgM n (σ 0)) (ho : o < n) : CTi l yX5_fewestDays cX5_fewestDays 4 .int ({ frames := 5, cells := 0, slots := 0, locals := 114 }) ad D (tysW cs) (pre ++ (wX cs h σ ++ post)) [.ref (h 0), .int 0, .int (nI o)] (fndP (fun t_ => decide (daysF n (σ 0) t_ (8 + 5 * o + 3) = 0)) 0 61) (pre ++ (wX cs h (su σ 2 (daysF n (σ 0) (fnN (fun t_ => decide (daysF n (σ 0) t_ (8 + 5 * o + 3) = 0)) 0 61))) ++ post)) := by
  refine CTi.of (lv0 := [(0, .ref (h 0)), (1, .int 0), (2, .int (nI o))]) (by decide) rfl (Nat.le_of_ble_eq_true rfl) (fun p e s m args below meth c A C hr hlk => ?_)
  have C : Cx p s m args c cX5_fewestDays 4 RX5 ad D (tysW cs) A := C
  refine r_aload_n (pc := 0) C 0 dX5_fewestDays_0 rfl rfl ?_
  refine xg_tried (pc := 1) C fl_RX5_16 dX5_fewestDays_1 ?_
  refine r_aload_n (pc := 4) C 0 dX5_fewestDays_4 rfl rfl ?_
  refine xg_now (pc := 5) C fl_RX5_10 dX5_fewestDays_5 ?_
  refine rc_Vv (pc := 8) C (t_X0_copyFrom_0_2' l ad D cs h σ pre post (σ 0) (rfl)  ) mv_X0_copyFrom ml_RX5_81 rfl ⟨Nat.le_of_ble_eq_true rfl, Nat.le_of_ble_eq_true rfl⟩ ⟨rfl, rfl⟩ (q0 := 9) rfl rfl rfl rfl rfl rfl (Nat.le_of_ble_eq_true rfl) dX5_fewestDays_8 ?_
  refine r_iconst (pc := 11) C 0 dX5_fewestDays_11 (by decide) ?_
  refine r_istore_n (pc := 12) C [(3, .int 0), (0, .ref (h 0)), (1, .int 0), (2, .int (nI o))] dX5_fewestDays_12 rfl (by decide) rfl ?_
  refine r_pick (lv' := [(0, .ref (h 0)), (1, .int 0), (2, .int (nI o)), (3, .int 0)]) [1, 2, 3, 0] rfl ?_
  refine r_blk (blk' := wX cs h (su σ 2 (daysF n (σ 0) 0))) (rfl) ?_
  refine r_loop (blkf := fun i => wX cs h (su σ 2 (daysF n (σ 0) i))) (lvf := fun i => [(0, .ref (h 0)), (1, .int 0), (2, .int (nI o)), (3, .int (nI i))]) (fun i => fndP (fun t_ => decide (daysF n (σ 0) t_ (8 + 5 * o + 3) = 0)) 0 61 = fndP (fun t_ => decide (daysF n (σ 0) t_ (8 + 5 * o + 3) = 0)) i (61 - i) ∧ fnN (fun t_ => decide (daysF n (σ 0) t_ (8 + 5 * o + 3) = 0)) 0 61 = fnN (fun t_ => decide (daysF n (σ 0) t_ (8 + 5 * o + 3) = 0)) i (61 - i)) 61 0 (by omega) (⟨rfl, rfl⟩) (fun i h_i hx ih_13 => ?_)
  show VX p l e _ s m args below meth c _ D A 4 pre (wX cs h (su σ 2 (daysF n (σ 0) i))) post 13 [(0, .ref (h 0)), (1, .int 0), (2, .int (nI o)), (3, .int (nI i))] []
  refine r_iload_n (pc := 13) C 3 dX5_fewestDays_13 rfl rfl ?_
  refine r_bipush (pc := 14) C 60 dX5_fewestDays_14 (by decide) ?_
  refine r_icmp_gt (pc := 16) C 47 dX5_fewestDays_16 (by decide) (fun c_1 => ?_) (fun c_1 => ?_)
  · skip
    have c_1 := nIc_gt_t (a := i) (b := 60) (by omega) (by omega) c_1
    obtain rfl : i = 61 := by omega
    refine r_bipush (pc := 47) C (-3) dX5_fewestDays_47 (by decide) ?_
    exact r_iret (pc := 49) C hr hlk dX5_fewestDays_49 rfl (by rw [hx.1]; rfl) (by rw [show (daysF n (σ 0) (fnN (fun t_ => decide (daysF n (σ 0) t_ (8 + 5 * o + 3) = 0)) 0 61) : Nat → Int32) = daysF n (σ 0) 61 from (by rw [hx.2]; rfl)] <;> rfl)
  · skip
    have c_1 := nIc_gt_f (a := i) (b := 60) (by omega) (by omega) c_1
    refine r_aload_n (pc := 19) C 0 dX5_fewestDays_19 rfl rfl ?_
    refine xg_tried (pc := 20) C fl_RX5_16 dX5_fewestDays_20 ?_
    refine r_iload_n (pc := 23) C 1 dX5_fewestDays_23 rfl rfl ?_
    refine r_iload_n (pc := 24) C 2 dX5_fewestDays_24 rfl rfl ?_
    refine rc_Vi (pc := 25) C (t_X0_isSo_0' l ad D cs (fun j => h (9 + j)) (fun _ => daysF n (σ 0) i) (pre ++ xA_2 cs h (su σ 2 (daysF n (σ 0) i))) (xC_2 cs h (su σ 2 (daysF n (σ 0) i)) ++ post) (daysF n (σ 0) i) rfl n o (daysF_0 hN) hn ho) mv_X0_isSo ml_RX5_312 rfl ⟨Nat.le_of_ble_eq_true rfl, Nat.le_of_ble_eq_true rfl⟩ ⟨rfl, rfl⟩ (q0 := 0) rfl rfl rfl fx_2 fx_2.symm rfl (Nat.le_of_ble_eq_true rfl) dX5_fewestDays_25 ?_
    refine r_if_eq (pc := 28) C 33 dX5_fewestDays_28 (by decide) (fun c_2 => ?_) (fun c_2 => ?_)
    · skip
      have c_2 := bI_0.mp c_2
      refine r_aload_n (pc := 33) C 0 dX5_fewestDays_33 rfl rfl ?_
      refine xg_tried (pc := 34) C fl_RX5_16 dX5_fewestDays_34 ?_
      refine r_iconst (pc := 37) C 1 dX5_fewestDays_37 (by decide) ?_
      refine rc_Vv (pc := 38) C (t_X0_passDays' l ad D cs (fun j => h (9 + j)) (fun _ => daysF n (σ 0) i) (pre ++ xA_2 cs h (su σ 2 (daysF n (σ 0) i))) (xC_2 cs h (su σ 2 (daysF n (σ 0) i)) ++ post) (daysF n (σ 0) i) rfl n 1 (daysF_0 hN) hn (rg_days hR i) (by omega)) mv_X0_passDays ml_RX5_142 rfl ⟨Nat.le_of_ble_eq_true rfl, Nat.le_of_ble_eq_true rfl⟩ ⟨rfl, rfl⟩ (q0 := 0) rfl rfl rfl fx_2 (bx_2 _) rfl (Nat.le_of_ble_eq_true rfl) dX5_fewestDays_38 ?_
      refine r_blk (blk' := wX cs h (su σ 2 (daysF n (daysF n (σ 0) i) 1))) (congrArg (wX cs h) (by rw [su_su (k := 2)])) ?_
      have f_3 : daysF n (daysF n (σ 0) i) 1 0 = nI n := daysF_0 (daysF_0 hN)
      refine r_iinc (pc := 41) C (nI (i + 1)) 3 [(3, .int (nI (i + 1))), (0, .ref (h 0)), (1, .int 0), (2, .int (nI o))] dX5_fewestDays_41 rfl (nI_1 _) (by decide) rfl ?_
      refine r_goto (pc := 44) C 13 dX5_fewestDays_44 (by decide) ?_
      refine r_pick (lv' := [(0, .ref (h 0)), (1, .int 0), (2, .int (nI o)), (3, .int (nI (i + 1)))]) [1, 2, 3, 0] rfl ?_
      refine r_blk (blk' := wX cs h (su σ 2 (daysF n (σ 0) (i + 1)))) (rfl) ?_
      exact ih_13 (by omega) (⟨hx.1.trans (fnd_next (by omega) (decide_eq_false ‹_›)), hx.2.trans (fn_next (by omega) (decide_eq_false ‹_›))⟩)
    · skip
      have c_2 := bI_n.mp c_2
      refine r_iload_n (pc := 31) C 3 dX5_fewestDays_31 rfl rfl ?_
      exact r_iret (pc := 32) C hr hlk dX5_fewestDays_32 rfl (by rw [hx.1]; exact (fnd_hit (by omega) (decide_eq_true ‹_›)).symm) (by rw [show (daysF n (σ 0) (fnN (fun t_ => decide (daysF n (σ 0) t_ (8 + 5 * o + 3) = 0)) 0 61) : Nat → Int32) = daysF n (σ 0) i from (by rw [hx.2, fn_hit (by omega) (decide_eq_true ‹_›)])] <;> rfl)
theorem t_X5_fewestDays_0' (l : Launch) (ad : Nat → Nat) (D : va_G) (cs : Nat → ClassId) (h : Nat → Nat) (σ : Nat → Nat → Int32) (pre post : va_W) (f0_ : Nat → Int32) (e0_ : σ 0 = f0_) (n : Nat) (o : Nat) (hN : f0_ 0 = nI n) (hn : n ≤ 8) (hR : rgM n f0_) (ho : o < n) : CTi l yX5_fewestDays cX5_fewestDays 4 .int ({ frames := 5, cells := 0, slots := 0, locals := 114 }) ad D (tysW cs) (pre ++ (wX cs h σ ++ post)) [.ref (h 0), .int 0, .int (nI o)] (fndP (fun t_ => decide (daysF n f0_ t_ (8 + 5 * o + 3) = 0)) 0 61) (pre ++ (wX cs h (su σ 2 (daysF n f0_ (fnN (fun t_ => decide (daysF n f0_ t_ (8 + 5 * o + 3) = 0)) 0 61))) ++ post)) := by
  subst e0_
  exact t_X5_fewestDays_0 l ad D cs h σ pre post n o hN hn hR ho
set_option maxHeartbeats 400000 in
set_option maxRecDepth 20000 in
theorem t_X5_fewestDays_1 (l : Launch) (ad : Nat → Nat) (D : va_G) (cs : Nat → ClassId) (h : Nat → Nat) (σ : Nat → Nat → Int32) (pre post : va_W) (n : Nat) (o : Nat) (hN : σ 0 0 = nI n) (hn : n ≤ 8) (hR : rgM n (σ 0)) : CTi l yX5_fewestDays cX5_fewestDays 4 .int ({ frames := 5, cells := 0, slots := 0, locals := 114 }) ad D (tysW cs) (pre ++ (wX cs h σ ++ post)) [.ref (h 0), .int 1, .int (nI o)] (fndP (fun t_ => decide (onN (daysF n (σ 0) t_) n = 2 ^ n - 1)) 0 61) (pre ++ (wX cs h (su σ 2 (daysF n (σ 0) (fnN (fun t_ => decide (onN (daysF n (σ 0) t_) n = 2 ^ n - 1)) 0 61))) ++ post)) := by
  refine CTi.of (lv0 := [(0, .ref (h 0)), (1, .int 1), (2, .int (nI o))]) (by decide) rfl (Nat.le_of_ble_eq_true rfl) (fun p e s m args below meth c A C hr hlk => ?_)
  have C : Cx p s m args c cX5_fewestDays 4 RX5 ad D (tysW cs) A := C
  refine r_aload_n (pc := 0) C 0 dX5_fewestDays_0 rfl rfl ?_
  refine xg_tried (pc := 1) C fl_RX5_16 dX5_fewestDays_1 ?_
  refine r_aload_n (pc := 4) C 0 dX5_fewestDays_4 rfl rfl ?_
  refine xg_now (pc := 5) C fl_RX5_10 dX5_fewestDays_5 ?_
  refine rc_Vv (pc := 8) C (t_X0_copyFrom_0_2' l ad D cs h σ pre post (σ 0) (rfl)  ) mv_X0_copyFrom ml_RX5_81 rfl ⟨Nat.le_of_ble_eq_true rfl, Nat.le_of_ble_eq_true rfl⟩ ⟨rfl, rfl⟩ (q0 := 9) rfl rfl rfl rfl rfl rfl (Nat.le_of_ble_eq_true rfl) dX5_fewestDays_8 ?_
  refine r_iconst (pc := 11) C 0 dX5_fewestDays_11 (by decide) ?_
  refine r_istore_n (pc := 12) C [(3, .int 0), (0, .ref (h 0)), (1, .int 1), (2, .int (nI o))] dX5_fewestDays_12 rfl (by decide) rfl ?_
  refine r_pick (lv' := [(0, .ref (h 0)), (1, .int 1), (2, .int (nI o)), (3, .int 0)]) [1, 2, 3, 0] rfl ?_
  refine r_blk (blk' := wX cs h (su σ 2 (daysF n (σ 0) 0))) (rfl) ?_
  refine r_loop (blkf := fun i => wX cs h (su σ 2 (daysF n (σ 0) i))) (lvf := fun i => [(0, .ref (h 0)), (1, .int 1), (2, .int (nI o)), (3, .int (nI i))]) (fun i => fndP (fun t_ => decide (onN (daysF n (σ 0) t_) n = 2 ^ n - 1)) 0 61 = fndP (fun t_ => decide (onN (daysF n (σ 0) t_) n = 2 ^ n - 1)) i (61 - i) ∧ fnN (fun t_ => decide (onN (daysF n (σ 0) t_) n = 2 ^ n - 1)) 0 61 = fnN (fun t_ => decide (onN (daysF n (σ 0) t_) n = 2 ^ n - 1)) i (61 - i)) 61 0 (by omega) (⟨rfl, rfl⟩) (fun i h_i hx ih_13 => ?_)
  show VX p l e _ s m args below meth c _ D A 4 pre (wX cs h (su σ 2 (daysF n (σ 0) i))) post 13 [(0, .ref (h 0)), (1, .int 1), (2, .int (nI o)), (3, .int (nI i))] []
  refine r_iload_n (pc := 13) C 3 dX5_fewestDays_13 rfl rfl ?_
  refine r_bipush (pc := 14) C 60 dX5_fewestDays_14 (by decide) ?_
  refine r_icmp_gt (pc := 16) C 47 dX5_fewestDays_16 (by decide) (fun c_1 => ?_) (fun c_1 => ?_)
  · skip
    have c_1 := nIc_gt_t (a := i) (b := 60) (by omega) (by omega) c_1
    obtain rfl : i = 61 := by omega
    refine r_bipush (pc := 47) C (-3) dX5_fewestDays_47 (by decide) ?_
    exact r_iret (pc := 49) C hr hlk dX5_fewestDays_49 rfl (by rw [hx.1]; rfl) (by rw [show (daysF n (σ 0) (fnN (fun t_ => decide (onN (daysF n (σ 0) t_) n = 2 ^ n - 1)) 0 61) : Nat → Int32) = daysF n (σ 0) 61 from (by rw [hx.2]; rfl)] <;> rfl)
  · skip
    have c_1 := nIc_gt_f (a := i) (b := 60) (by omega) (by omega) c_1
    refine r_aload_n (pc := 19) C 0 dX5_fewestDays_19 rfl rfl ?_
    refine xg_tried (pc := 20) C fl_RX5_16 dX5_fewestDays_20 ?_
    refine r_iload_n (pc := 23) C 1 dX5_fewestDays_23 rfl rfl ?_
    refine r_iload_n (pc := 24) C 2 dX5_fewestDays_24 rfl rfl ?_
    refine rc_Vi (pc := 25) C (t_X0_isSo_1' l ad D cs (fun j => h (9 + j)) (fun _ => daysF n (σ 0) i) (pre ++ xA_2 cs h (su σ 2 (daysF n (σ 0) i))) (xC_2 cs h (su σ 2 (daysF n (σ 0) i)) ++ post) (daysF n (σ 0) i) rfl n o (daysF_0 hN) hn) mv_X0_isSo ml_RX5_312 rfl ⟨Nat.le_of_ble_eq_true rfl, Nat.le_of_ble_eq_true rfl⟩ ⟨rfl, rfl⟩ (q0 := 0) rfl rfl rfl fx_2 fx_2.symm rfl (Nat.le_of_ble_eq_true rfl) dX5_fewestDays_25 ?_
    refine r_if_eq (pc := 28) C 33 dX5_fewestDays_28 (by decide) (fun c_2 => ?_) (fun c_2 => ?_)
    · skip
      have c_2 := bI_0.mp c_2
      refine r_aload_n (pc := 33) C 0 dX5_fewestDays_33 rfl rfl ?_
      refine xg_tried (pc := 34) C fl_RX5_16 dX5_fewestDays_34 ?_
      refine r_iconst (pc := 37) C 1 dX5_fewestDays_37 (by decide) ?_
      refine rc_Vv (pc := 38) C (t_X0_passDays' l ad D cs (fun j => h (9 + j)) (fun _ => daysF n (σ 0) i) (pre ++ xA_2 cs h (su σ 2 (daysF n (σ 0) i))) (xC_2 cs h (su σ 2 (daysF n (σ 0) i)) ++ post) (daysF n (σ 0) i) rfl n 1 (daysF_0 hN) hn (rg_days hR i) (by omega)) mv_X0_passDays ml_RX5_142 rfl ⟨Nat.le_of_ble_eq_true rfl, Nat.le_of_ble_eq_true rfl⟩ ⟨rfl, rfl⟩ (q0 := 0) rfl rfl rfl fx_2 (bx_2 _) rfl (Nat.le_of_ble_eq_true rfl) dX5_fewestDays_38 ?_
      refine r_blk (blk' := wX cs h (su σ 2 (daysF n (daysF n (σ 0) i) 1))) (congrArg (wX cs h) (by rw [su_su (k := 2)])) ?_
      have f_3 : daysF n (daysF n (σ 0) i) 1 0 = nI n := daysF_0 (daysF_0 hN)
      refine r_iinc (pc := 41) C (nI (i + 1)) 3 [(3, .int (nI (i + 1))), (0, .ref (h 0)), (1, .int 1), (2, .int (nI o))] dX5_fewestDays_41 rfl (nI_1 _) (by decide) rfl ?_
      refine r_goto (pc := 44) C 13 dX5_fewestDays_44 (by decide) ?_
      refine r_pick (lv' := [(0, .ref (h 0)), (1, .int 1), (2, .int (nI o)), (3, .int (nI (i + 1)))]) [1, 2, 3, 0] rfl ?_
      refine r_blk (blk' := wX cs h (su σ 2 (daysF n (σ 0) (i + 1)))) (rfl) ?_
      exact ih_13 (by omega) (⟨hx.1.trans (fnd_next (by omega) (decide_eq_false ‹_›)), hx.2.trans (fn_next (by omega) (decide_eq_false ‹_›))⟩)
    · skip
      have c_2 := bI_n.mp c_2
      refine r_iload_n (pc := 31) C 3 dX5_fewestDays_31 rfl rfl ?_
      exact r_iret (pc := 32) C hr hlk dX5_fewestDays_32 rfl (by rw [hx.1]; exact (fnd_hit (by omega) (decide_eq_true ‹_›)).symm) (by rw [show (daysF n (σ 0) (fnN (fun t_ => decide (onN (daysF n (σ 0) t_) n = 2 ^ n - 1)) 0 61) : Nat → Int32) = daysF n (σ 0) i from (by rw [hx.2, fn_hit (by omega) (decide_eq_true ‹_›)])] <;> rfl)
theorem t_X5_fewestDays_1' (l : Launch) (ad : Nat → Nat) (D : va_G) (cs : Nat → ClassId) (h : Nat → Nat) (σ : Nat → Nat → Int32) (pre post : va_W) (f0_ : Nat → Int32) (e0_ : σ 0 = f0_) (n : Nat) (o : Nat) (hN : f0_ 0 = nI n) (hn : n ≤ 8) (hR : rgM n f0_) : CTi l yX5_fewestDays cX5_fewestDays 4 .int ({ frames := 5, cells := 0, slots := 0, locals := 114 }) ad D (tysW cs) (pre ++ (wX cs h σ ++ post)) [.ref (h 0), .int 1, .int (nI o)] (fndP (fun t_ => decide (onN (daysF n f0_ t_) n = 2 ^ n - 1)) 0 61) (pre ++ (wX cs h (su σ 2 (daysF n f0_ (fnN (fun t_ => decide (onN (daysF n f0_ t_) n = 2 ^ n - 1)) 0 61))) ++ post)) := by
  subst e0_
  exact t_X5_fewestDays_1 l ad D cs h σ pre post n o hN hn hR
set_option maxHeartbeats 400000 in
set_option maxRecDepth 20000 in
theorem t_X5_fewestDays_2 (l : Launch) (ad : Nat → Nat) (D : va_G) (cs : Nat → ClassId) (h : Nat → Nat) (σ : Nat → Nat → Int32) (pre post : va_W) (n : Nat) (o : Nat) (hN : σ 0 0 = nI n) (hn : n ≤ 8) (hR : rgM n (σ 0)) (ho : o < n) : CTi l yX5_fewestDays cX5_fewestDays 4 .int ({ frames := 5, cells := 0, slots := 0, locals := 114 }) ad D (tysW cs) (pre ++ (wX cs h σ ++ post)) [.ref (h 0), .int 2, .int (nI o)] (fndP (fun t_ => decide (daysF n (σ 0) t_ (8 + 5 * o + 4) = 0)) 0 61) (pre ++ (wX cs h (su σ 2 (daysF n (σ 0) (fnN (fun t_ => decide (daysF n (σ 0) t_ (8 + 5 * o + 4) = 0)) 0 61))) ++ post)) := by
  refine CTi.of (lv0 := [(0, .ref (h 0)), (1, .int 2), (2, .int (nI o))]) (by decide) rfl (Nat.le_of_ble_eq_true rfl) (fun p e s m args below meth c A C hr hlk => ?_)
  have C : Cx p s m args c cX5_fewestDays 4 RX5 ad D (tysW cs) A := C
  refine r_aload_n (pc := 0) C 0 dX5_fewestDays_0 rfl rfl ?_
  refine xg_tried (pc := 1) C fl_RX5_16 dX5_fewestDays_1 ?_
  refine r_aload_n (pc := 4) C 0 dX5_fewestDays_4 rfl rfl ?_
  refine xg_now (pc := 5) C fl_RX5_10 dX5_fewestDays_5 ?_
  refine rc_Vv (pc := 8) C (t_X0_copyFrom_0_2' l ad D cs h σ pre post (σ 0) (rfl)  ) mv_X0_copyFrom ml_RX5_81 rfl ⟨Nat.le_of_ble_eq_true rfl, Nat.le_of_ble_eq_true rfl⟩ ⟨rfl, rfl⟩ (q0 := 9) rfl rfl rfl rfl rfl rfl (Nat.le_of_ble_eq_true rfl) dX5_fewestDays_8 ?_
  refine r_iconst (pc := 11) C 0 dX5_fewestDays_11 (by decide) ?_
  refine r_istore_n (pc := 12) C [(3, .int 0), (0, .ref (h 0)), (1, .int 2), (2, .int (nI o))] dX5_fewestDays_12 rfl (by decide) rfl ?_
  refine r_pick (lv' := [(0, .ref (h 0)), (1, .int 2), (2, .int (nI o)), (3, .int 0)]) [1, 2, 3, 0] rfl ?_
  refine r_blk (blk' := wX cs h (su σ 2 (daysF n (σ 0) 0))) (rfl) ?_
  refine r_loop (blkf := fun i => wX cs h (su σ 2 (daysF n (σ 0) i))) (lvf := fun i => [(0, .ref (h 0)), (1, .int 2), (2, .int (nI o)), (3, .int (nI i))]) (fun i => fndP (fun t_ => decide (daysF n (σ 0) t_ (8 + 5 * o + 4) = 0)) 0 61 = fndP (fun t_ => decide (daysF n (σ 0) t_ (8 + 5 * o + 4) = 0)) i (61 - i) ∧ fnN (fun t_ => decide (daysF n (σ 0) t_ (8 + 5 * o + 4) = 0)) 0 61 = fnN (fun t_ => decide (daysF n (σ 0) t_ (8 + 5 * o + 4) = 0)) i (61 - i)) 61 0 (by omega) (⟨rfl, rfl⟩) (fun i h_i hx ih_13 => ?_)
  show VX p l e _ s m args below meth c _ D A 4 pre (wX cs h (su σ 2 (daysF n (σ 0) i))) post 13 [(0, .ref (h 0)), (1, .int 2), (2, .int (nI o)), (3, .int (nI i))] []
  refine r_iload_n (pc := 13) C 3 dX5_fewestDays_13 rfl rfl ?_
  refine r_bipush (pc := 14) C 60 dX5_fewestDays_14 (by decide) ?_
  refine r_icmp_gt (pc := 16) C 47 dX5_fewestDays_16 (by decide) (fun c_1 => ?_) (fun c_1 => ?_)
  · skip
    have c_1 := nIc_gt_t (a := i) (b := 60) (by omega) (by omega) c_1
    obtain rfl : i = 61 := by omega
    refine r_bipush (pc := 47) C (-3) dX5_fewestDays_47 (by decide) ?_
    exact r_iret (pc := 49) C hr hlk dX5_fewestDays_49 rfl (by rw [hx.1]; rfl) (by rw [show (daysF n (σ 0) (fnN (fun t_ => decide (daysF n (σ 0) t_ (8 + 5 * o + 4) = 0)) 0 61) : Nat → Int32) = daysF n (σ 0) 61 from (by rw [hx.2]; rfl)] <;> rfl)
  · skip
    have c_1 := nIc_gt_f (a := i) (b := 60) (by omega) (by omega) c_1
    refine r_aload_n (pc := 19) C 0 dX5_fewestDays_19 rfl rfl ?_
    refine xg_tried (pc := 20) C fl_RX5_16 dX5_fewestDays_20 ?_
    refine r_iload_n (pc := 23) C 1 dX5_fewestDays_23 rfl rfl ?_
    refine r_iload_n (pc := 24) C 2 dX5_fewestDays_24 rfl rfl ?_
    refine rc_Vi (pc := 25) C (t_X0_isSo_2' l ad D cs (fun j => h (9 + j)) (fun _ => daysF n (σ 0) i) (pre ++ xA_2 cs h (su σ 2 (daysF n (σ 0) i))) (xC_2 cs h (su σ 2 (daysF n (σ 0) i)) ++ post) (daysF n (σ 0) i) rfl n o (daysF_0 hN) hn ho) mv_X0_isSo ml_RX5_312 rfl ⟨Nat.le_of_ble_eq_true rfl, Nat.le_of_ble_eq_true rfl⟩ ⟨rfl, rfl⟩ (q0 := 0) rfl rfl rfl fx_2 fx_2.symm rfl (Nat.le_of_ble_eq_true rfl) dX5_fewestDays_25 ?_
    refine r_if_eq (pc := 28) C 33 dX5_fewestDays_28 (by decide) (fun c_2 => ?_) (fun c_2 => ?_)
    · skip
      have c_2 := bI_0.mp c_2
      refine r_aload_n (pc := 33) C 0 dX5_fewestDays_33 rfl rfl ?_
      refine xg_tried (pc := 34) C fl_RX5_16 dX5_fewestDays_34 ?_
      refine r_iconst (pc := 37) C 1 dX5_fewestDays_37 (by decide) ?_
      refine rc_Vv (pc := 38) C (t_X0_passDays' l ad D cs (fun j => h (9 + j)) (fun _ => daysF n (σ 0) i) (pre ++ xA_2 cs h (su σ 2 (daysF n (σ 0) i))) (xC_2 cs h (su σ 2 (daysF n (σ 0) i)) ++ post) (daysF n (σ 0) i) rfl n 1 (daysF_0 hN) hn (rg_days hR i) (by omega)) mv_X0_passDays ml_RX5_142 rfl ⟨Nat.le_of_ble_eq_true rfl, Nat.le_of_ble_eq_true rfl⟩ ⟨rfl, rfl⟩ (q0 := 0) rfl rfl rfl fx_2 (bx_2 _) rfl (Nat.le_of_ble_eq_true rfl) dX5_fewestDays_38 ?_
      refine r_blk (blk' := wX cs h (su σ 2 (daysF n (daysF n (σ 0) i) 1))) (congrArg (wX cs h) (by rw [su_su (k := 2)])) ?_
      have f_3 : daysF n (daysF n (σ 0) i) 1 0 = nI n := daysF_0 (daysF_0 hN)
      refine r_iinc (pc := 41) C (nI (i + 1)) 3 [(3, .int (nI (i + 1))), (0, .ref (h 0)), (1, .int 2), (2, .int (nI o))] dX5_fewestDays_41 rfl (nI_1 _) (by decide) rfl ?_
      refine r_goto (pc := 44) C 13 dX5_fewestDays_44 (by decide) ?_
      refine r_pick (lv' := [(0, .ref (h 0)), (1, .int 2), (2, .int (nI o)), (3, .int (nI (i + 1)))]) [1, 2, 3, 0] rfl ?_
      refine r_blk (blk' := wX cs h (su σ 2 (daysF n (σ 0) (i + 1)))) (rfl) ?_
      exact ih_13 (by omega) (⟨hx.1.trans (fnd_next (by omega) (decide_eq_false ‹_›)), hx.2.trans (fn_next (by omega) (decide_eq_false ‹_›))⟩)
    · skip
      have c_2 := bI_n.mp c_2
      refine r_iload_n (pc := 31) C 3 dX5_fewestDays_31 rfl rfl ?_
      exact r_iret (pc := 32) C hr hlk dX5_fewestDays_32 rfl (by rw [hx.1]; exact (fnd_hit (by omega) (decide_eq_true ‹_›)).symm) (by rw [show (daysF n (σ 0) (fnN (fun t_ => decide (daysF n (σ 0) t_ (8 + 5 * o + 4) = 0)) 0 61) : Nat → Int32) = daysF n (σ 0) i from (by rw [hx.2, fn_hit (by omega) (decide_eq_true ‹_›)])] <;> rfl)
theorem t_X5_fewestDays_2' (l : Launch) (ad : Nat → Nat) (D : va_G) (cs : Nat → ClassId) (h : Nat → Nat) (σ : Nat → Nat → Int32) (pre post : va_W) (f0_ : Nat → Int32) (e0_ : σ 0 = f0_) (n : Nat) (o : Nat) (hN : f0_ 0 = nI n) (hn : n ≤ 8) (hR : rgM n f0_) (ho : o < n) : CTi l yX5_fewestDays cX5_fewestDays 4 .int ({ frames := 5, cells := 0, slots := 0, locals := 114 }) ad D (tysW cs) (pre ++ (wX cs h σ ++ post)) [.ref (h 0), .int 2, .int (nI o)] (fndP (fun t_ => decide (daysF n f0_ t_ (8 + 5 * o + 4) = 0)) 0 61) (pre ++ (wX cs h (su σ 2 (daysF n f0_ (fnN (fun t_ => decide (daysF n f0_ t_ (8 + 5 * o + 4) = 0)) 0 61))) ++ post)) := by
  subst e0_
  exact t_X5_fewestDays_2 l ad D cs h σ pre post n o hN hn hR ho
theorem dX5_steps_0 : decode cX5_steps 0 = .ok (.aload_n 0, 1) := by decide +kernel
theorem dX5_steps_1 : decode cX5_steps 1 = .ok (.getfield 10, 3) := by decide +kernel
theorem dX5_steps_4 : decode cX5_steps 4 = .ok (.iload_n 1, 1) := by decide +kernel
theorem dX5_steps_5 : decode cX5_steps 5 = .ok (.invokevirtual 116, 3) := by decide +kernel
theorem dX5_steps_8 : decode cX5_steps 8 = .ok (.ifCond .eq 12, 3) := by decide +kernel
theorem dX5_steps_11 : decode cX5_steps 11 = .ok (.aload_n 0, 1) := by decide +kernel
theorem dX5_steps_12 : decode cX5_steps 12 = .ok (.iconst 0, 1) := by decide +kernel
theorem dX5_steps_13 : decode cX5_steps 13 = .ok (.iload_n 1, 1) := by decide +kernel
theorem dX5_steps_14 : decode cX5_steps 14 = .ok (.invokevirtual 167, 3) := by decide +kernel
theorem dX5_steps_17 : decode cX5_steps 17 = .ok (.goto 4, 3) := by decide +kernel
theorem dX5_steps_20 : decode cX5_steps 20 = .ok (.iconst (-1), 1) := by decide +kernel
theorem dX5_steps_21 : decode cX5_steps 21 = .ok (.ireturn, 1) := by decide +kernel
set_option maxHeartbeats 400000 in
set_option maxRecDepth 20000 in
theorem t_X5_steps (l : Launch) (ad : Nat → Nat) (D : va_G) (cs : Nat → ClassId) (h : Nat → Nat) (σ : Nat → Nat → Int32) (pre post : va_W) (n : Nat) (o : Int32) (hN : σ 0 0 = nI n) (hn : n ≤ 8) (hR : rgM n (σ 0)) : CTi l yX5_steps cX5_steps 2 .int ({ frames := 6, cells := 0, slots := 0, locals := 137 }) ad D (tysW cs) (pre ++ (wX cs h σ ++ post)) [.ref (h 0), .int o] (gateI (oneB n o) (fndP (fun t_ => decide (daysF n (σ 0) t_ (8 + 5 * o.toNatClampNeg + 3) = 0)) 0 61) (-1)) (pre ++ (wX cs h (su σ 2 (gateF (oneB n o) (daysF n (σ 0) (fnN (fun t_ => decide (daysF n (σ 0) t_ (8 + 5 * o.toNatClampNeg + 3) = 0)) 0 61)) (σ 2))) ++ post)) := by
  refine CTi.of (lv0 := [(0, .ref (h 0)), (1, .int o)]) (by decide) rfl (Nat.le_of_ble_eq_true rfl) (fun p e s m args below meth c A C hr hlk => ?_)
  have C : Cx p s m args c cX5_steps 2 RX5 ad D (tysW cs) A := C
  refine r_aload_n (pc := 0) C 0 dX5_steps_0 rfl rfl ?_
  refine xg_now (pc := 1) C fl_RX5_10 dX5_steps_1 ?_
  refine r_iload_n (pc := 4) C 1 dX5_steps_4 rfl rfl ?_
  refine rc_Vi (pc := 5) C (t_X0_exists' l ad D cs (fun j => h (1 + j)) (fun _ => σ 0) (pre ++ xA_0 cs h σ) (xC_0 cs h σ ++ post) (σ 0) rfl n o hN hn) mv_X0_exists ml_RX5_116 rfl ⟨Nat.le_of_ble_eq_true rfl, Nat.le_of_ble_eq_true rfl⟩ ⟨rfl, rfl⟩ (q0 := 0) rfl rfl rfl fx_0 fx_0.symm rfl (Nat.le_of_ble_eq_true rfl) dX5_steps_5 ?_
  refine r_if_eq (pc := 8) C 20 dX5_steps_8 (by decide) (fun c_1 => ?_) (fun c_1 => ?_)
  · skip
    have c_1 := bI_0.mp c_1
    refine r_iconst (pc := 20) C (-1) dX5_steps_20 (by decide) ?_
    exact r_iret (pc := 21) C hr hlk dX5_steps_21 rfl (by first | rfl | (simp [gateI, gateF, *]; done) | simp_all [gateI, gateF]) (by rw [show (gateF (oneB n o) (daysF n (σ 0) (fnN (fun t_ => decide (daysF n (σ 0) t_ (8 + 5 * o.toNatClampNeg + 3) = 0)) 0 61)) (σ 2) : Nat → Int32) = σ 2 from (by first | rfl | (simp [gateI, gateF, *]; done) | simp_all [gateI, gateF])] <;> rfl)
  · skip
    have c_1 := bI_n.mp c_1
    obtain ⟨j, h_j, rfl⟩ := one_nat (by omega) c_1
    have e_j : (nI j).toNatClampNeg = j := nI_clamp (by omega)
    refine r_aload_n (pc := 11) C 0 dX5_steps_11 rfl rfl ?_
    refine r_iconst (pc := 12) C 0 dX5_steps_12 (by decide) ?_
    refine r_iload_n (pc := 13) C 1 dX5_steps_13 rfl rfl ?_
    refine rc_Vi (pc := 14) C (t_X5_fewestDays_0' l ad D cs h σ pre post (σ 0) (rfl) n j hN hn hR h_j) mv_X5_fewestDays ml_RX5_167 rfl ⟨Nat.le_of_ble_eq_true rfl, Nat.le_of_ble_eq_true rfl⟩ ⟨rfl, rfl⟩ (q0 := 0) rfl rfl rfl rfl rfl rfl (Nat.le_of_ble_eq_true rfl) dX5_steps_14 ?_
    refine r_goto (pc := 17) C 21 dX5_steps_17 (by decide) ?_
    exact r_iret (pc := 21) C hr hlk dX5_steps_21 rfl (by first | rfl | (simp [gateI, gateF, *]; done) | simp_all [gateI, gateF]) (by rw [show (gateF (oneB n (nI j)) (daysF n (σ 0) (fnN (fun t_ => decide (daysF n (σ 0) t_ (8 + 5 * (nI j).toNatClampNeg + 3) = 0)) 0 61)) (σ 2) : Nat → Int32) = daysF n (σ 0) (fnN (fun t_ => decide (daysF n (σ 0) t_ (8 + 5 * j + 3) = 0)) 0 61) from (by first | rfl | (simp [gateI, gateF, *]; done) | simp_all [gateI, gateF])] <;> rfl)
theorem t_X5_steps' (l : Launch) (ad : Nat → Nat) (D : va_G) (cs : Nat → ClassId) (h : Nat → Nat) (σ : Nat → Nat → Int32) (pre post : va_W) (f0_ : Nat → Int32) (e0_ : σ 0 = f0_) (f2_ : Nat → Int32) (e2_ : σ 2 = f2_) (n : Nat) (o : Int32) (hN : f0_ 0 = nI n) (hn : n ≤ 8) (hR : rgM n f0_) : CTi l yX5_steps cX5_steps 2 .int ({ frames := 6, cells := 0, slots := 0, locals := 137 }) ad D (tysW cs) (pre ++ (wX cs h σ ++ post)) [.ref (h 0), .int o] (gateI (oneB n o) (fndP (fun t_ => decide (daysF n f0_ t_ (8 + 5 * o.toNatClampNeg + 3) = 0)) 0 61) (-1)) (pre ++ (wX cs h (su σ 2 (gateF (oneB n o) (daysF n f0_ (fnN (fun t_ => decide (daysF n f0_ t_ (8 + 5 * o.toNatClampNeg + 3) = 0)) 0 61)) (f2_))) ++ post)) := by
  subst e0_; subst e2_
  exact t_X5_steps l ad D cs h σ pre post n o hN hn hR
theorem dX5_poor_0 : decode cX5_poor 0 = .ok (.aload_n 0, 1) := by decide +kernel
theorem dX5_poor_1 : decode cX5_poor 1 = .ok (.getfield 10, 3) := by decide +kernel
theorem dX5_poor_4 : decode cX5_poor 4 = .ok (.iload_n 1, 1) := by decide +kernel
theorem dX5_poor_5 : decode cX5_poor 5 = .ok (.invokevirtual 116, 3) := by decide +kernel
theorem dX5_poor_8 : decode cX5_poor 8 = .ok (.ifCond .eq 12, 3) := by decide +kernel
theorem dX5_poor_11 : decode cX5_poor 11 = .ok (.aload_n 0, 1) := by decide +kernel
theorem dX5_poor_12 : decode cX5_poor 12 = .ok (.iconst 2, 1) := by decide +kernel
theorem dX5_poor_13 : decode cX5_poor 13 = .ok (.iload_n 1, 1) := by decide +kernel
theorem dX5_poor_14 : decode cX5_poor 14 = .ok (.invokevirtual 167, 3) := by decide +kernel
theorem dX5_poor_17 : decode cX5_poor 17 = .ok (.goto 4, 3) := by decide +kernel
theorem dX5_poor_20 : decode cX5_poor 20 = .ok (.iconst (-1), 1) := by decide +kernel
theorem dX5_poor_21 : decode cX5_poor 21 = .ok (.ireturn, 1) := by decide +kernel
set_option maxHeartbeats 400000 in
set_option maxRecDepth 20000 in
theorem t_X5_poor (l : Launch) (ad : Nat → Nat) (D : va_G) (cs : Nat → ClassId) (h : Nat → Nat) (σ : Nat → Nat → Int32) (pre post : va_W) (n : Nat) (o : Int32) (hN : σ 0 0 = nI n) (hn : n ≤ 8) (hR : rgM n (σ 0)) : CTi l yX5_poor cX5_poor 2 .int ({ frames := 6, cells := 0, slots := 0, locals := 137 }) ad D (tysW cs) (pre ++ (wX cs h σ ++ post)) [.ref (h 0), .int o] (gateI (oneB n o) (fndP (fun t_ => decide (daysF n (σ 0) t_ (8 + 5 * o.toNatClampNeg + 4) = 0)) 0 61) (-1)) (pre ++ (wX cs h (su σ 2 (gateF (oneB n o) (daysF n (σ 0) (fnN (fun t_ => decide (daysF n (σ 0) t_ (8 + 5 * o.toNatClampNeg + 4) = 0)) 0 61)) (σ 2))) ++ post)) := by
  refine CTi.of (lv0 := [(0, .ref (h 0)), (1, .int o)]) (by decide) rfl (Nat.le_of_ble_eq_true rfl) (fun p e s m args below meth c A C hr hlk => ?_)
  have C : Cx p s m args c cX5_poor 2 RX5 ad D (tysW cs) A := C
  refine r_aload_n (pc := 0) C 0 dX5_poor_0 rfl rfl ?_
  refine xg_now (pc := 1) C fl_RX5_10 dX5_poor_1 ?_
  refine r_iload_n (pc := 4) C 1 dX5_poor_4 rfl rfl ?_
  refine rc_Vi (pc := 5) C (t_X0_exists' l ad D cs (fun j => h (1 + j)) (fun _ => σ 0) (pre ++ xA_0 cs h σ) (xC_0 cs h σ ++ post) (σ 0) rfl n o hN hn) mv_X0_exists ml_RX5_116 rfl ⟨Nat.le_of_ble_eq_true rfl, Nat.le_of_ble_eq_true rfl⟩ ⟨rfl, rfl⟩ (q0 := 0) rfl rfl rfl fx_0 fx_0.symm rfl (Nat.le_of_ble_eq_true rfl) dX5_poor_5 ?_
  refine r_if_eq (pc := 8) C 20 dX5_poor_8 (by decide) (fun c_1 => ?_) (fun c_1 => ?_)
  · skip
    have c_1 := bI_0.mp c_1
    refine r_iconst (pc := 20) C (-1) dX5_poor_20 (by decide) ?_
    exact r_iret (pc := 21) C hr hlk dX5_poor_21 rfl (by first | rfl | (simp [gateI, gateF, *]; done) | simp_all [gateI, gateF]) (by rw [show (gateF (oneB n o) (daysF n (σ 0) (fnN (fun t_ => decide (daysF n (σ 0) t_ (8 + 5 * o.toNatClampNeg + 4) = 0)) 0 61)) (σ 2) : Nat → Int32) = σ 2 from (by first | rfl | (simp [gateI, gateF, *]; done) | simp_all [gateI, gateF])] <;> rfl)
  · skip
    have c_1 := bI_n.mp c_1
    obtain ⟨j, h_j, rfl⟩ := one_nat (by omega) c_1
    have e_j : (nI j).toNatClampNeg = j := nI_clamp (by omega)
    refine r_aload_n (pc := 11) C 0 dX5_poor_11 rfl rfl ?_
    refine r_iconst (pc := 12) C 2 dX5_poor_12 (by decide) ?_
    refine r_iload_n (pc := 13) C 1 dX5_poor_13 rfl rfl ?_
    refine rc_Vi (pc := 14) C (t_X5_fewestDays_2' l ad D cs h σ pre post (σ 0) (rfl) n j hN hn hR h_j) mv_X5_fewestDays ml_RX5_167 rfl ⟨Nat.le_of_ble_eq_true rfl, Nat.le_of_ble_eq_true rfl⟩ ⟨rfl, rfl⟩ (q0 := 0) rfl rfl rfl rfl rfl rfl (Nat.le_of_ble_eq_true rfl) dX5_poor_14 ?_
    refine r_goto (pc := 17) C 21 dX5_poor_17 (by decide) ?_
    exact r_iret (pc := 21) C hr hlk dX5_poor_21 rfl (by first | rfl | (simp [gateI, gateF, *]; done) | simp_all [gateI, gateF]) (by rw [show (gateF (oneB n (nI j)) (daysF n (σ 0) (fnN (fun t_ => decide (daysF n (σ 0) t_ (8 + 5 * (nI j).toNatClampNeg + 4) = 0)) 0 61)) (σ 2) : Nat → Int32) = daysF n (σ 0) (fnN (fun t_ => decide (daysF n (σ 0) t_ (8 + 5 * j + 4) = 0)) 0 61) from (by first | rfl | (simp [gateI, gateF, *]; done) | simp_all [gateI, gateF])] <;> rfl)
theorem t_X5_poor' (l : Launch) (ad : Nat → Nat) (D : va_G) (cs : Nat → ClassId) (h : Nat → Nat) (σ : Nat → Nat → Int32) (pre post : va_W) (f0_ : Nat → Int32) (e0_ : σ 0 = f0_) (f2_ : Nat → Int32) (e2_ : σ 2 = f2_) (n : Nat) (o : Int32) (hN : f0_ 0 = nI n) (hn : n ≤ 8) (hR : rgM n f0_) : CTi l yX5_poor cX5_poor 2 .int ({ frames := 6, cells := 0, slots := 0, locals := 137 }) ad D (tysW cs) (pre ++ (wX cs h σ ++ post)) [.ref (h 0), .int o] (gateI (oneB n o) (fndP (fun t_ => decide (daysF n f0_ t_ (8 + 5 * o.toNatClampNeg + 4) = 0)) 0 61) (-1)) (pre ++ (wX cs h (su σ 2 (gateF (oneB n o) (daysF n f0_ (fnN (fun t_ => decide (daysF n f0_ t_ (8 + 5 * o.toNatClampNeg + 4) = 0)) 0 61)) (f2_))) ++ post)) := by
  subst e0_; subst e2_
  exact t_X5_poor l ad D cs h σ pre post n o hN hn hR
theorem dX5_all_0 : decode cX5_all 0 = .ok (.aload_n 0, 1) := by decide +kernel
theorem dX5_all_1 : decode cX5_all 1 = .ok (.iconst 1, 1) := by decide +kernel
theorem dX5_all_2 : decode cX5_all 2 = .ok (.iconst 0, 1) := by decide +kernel
theorem dX5_all_3 : decode cX5_all 3 = .ok (.invokevirtual 167, 3) := by decide +kernel
theorem dX5_all_6 : decode cX5_all 6 = .ok (.ireturn, 1) := by decide +kernel
set_option maxHeartbeats 400000 in
set_option maxRecDepth 20000 in
theorem t_X5_all (l : Launch) (ad : Nat → Nat) (D : va_G) (cs : Nat → ClassId) (h : Nat → Nat) (σ : Nat → Nat → Int32) (pre post : va_W) (n : Nat) (hN : σ 0 0 = nI n) (hn : n ≤ 8) (hR : rgM n (σ 0)) : CTi l yX5_all cX5_all 1 .int ({ frames := 6, cells := 0, slots := 0, locals := 137 }) ad D (tysW cs) (pre ++ (wX cs h σ ++ post)) [.ref (h 0)] (fndP (fun t_ => decide (onN (daysF n (σ 0) t_) n = 2 ^ n - 1)) 0 61) (pre ++ (wX cs h (su σ 2 (daysF n (σ 0) (fnN (fun t_ => decide (onN (daysF n (σ 0) t_) n = 2 ^ n - 1)) 0 61))) ++ post)) := by
  refine CTi.of (lv0 := [(0, .ref (h 0))]) (by decide) rfl (Nat.le_of_ble_eq_true rfl) (fun p e s m args below meth c A C hr hlk => ?_)
  have C : Cx p s m args c cX5_all 1 RX5 ad D (tysW cs) A := C
  refine r_aload_n (pc := 0) C 0 dX5_all_0 rfl rfl ?_
  refine r_iconst (pc := 1) C 1 dX5_all_1 (by decide) ?_
  refine r_iconst (pc := 2) C 0 dX5_all_2 (by decide) ?_
  refine rc_Vi (pc := 3) C (t_X5_fewestDays_1' l ad D cs h σ pre post (σ 0) (rfl) n 0 hN hn hR) mv_X5_fewestDays ml_RX5_167 rfl ⟨Nat.le_of_ble_eq_true rfl, Nat.le_of_ble_eq_true rfl⟩ ⟨rfl, rfl⟩ (q0 := 0) rfl rfl rfl rfl rfl rfl (Nat.le_of_ble_eq_true rfl) dX5_all_3 ?_
  exact r_iret (pc := 6) C hr hlk dX5_all_6 rfl rfl rfl
theorem t_X5_all' (l : Launch) (ad : Nat → Nat) (D : va_G) (cs : Nat → ClassId) (h : Nat → Nat) (σ : Nat → Nat → Int32) (pre post : va_W) (f0_ : Nat → Int32) (e0_ : σ 0 = f0_) (n : Nat) (hN : f0_ 0 = nI n) (hn : n ≤ 8) (hR : rgM n f0_) : CTi l yX5_all cX5_all 1 .int ({ frames := 6, cells := 0, slots := 0, locals := 137 }) ad D (tysW cs) (pre ++ (wX cs h σ ++ post)) [.ref (h 0)] (fndP (fun t_ => decide (onN (daysF n f0_ t_) n = 2 ^ n - 1)) 0 61) (pre ++ (wX cs h (su σ 2 (daysF n f0_ (fnN (fun t_ => decide (onN (daysF n f0_ t_) n = 2 ^ n - 1)) 0 61))) ++ post)) := by
  subst e0_
  exact t_X5_all l ad D cs h σ pre post n hN hn hR
