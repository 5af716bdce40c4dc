theorem dX6_runs_0 : decode cX6_runs 0 = .ok (.aload_n 0, 1) := by decide +kernel
theorem dX6_runs_1 : decode cX6_runs 1 = .ok (.getfield 287, 3) := by decide +kernel
theorem dX6_runs_4 : decode cX6_runs 4 = .ok (.bipush 30, 2) := by decide +kernel
theorem dX6_runs_6 : decode cX6_runs 6 = .ok (.if_icmp .ge 23, 3) := by decide +kernel
theorem dX6_runs_9 : decode cX6_runs 9 = .ok (.aload_n 0, 1) := by decide +kernel
theorem dX6_runs_10 : decode cX6_runs 10 = .ok (.getfield 49, 3) := by decide +kernel
theorem dX6_runs_13 : decode cX6_runs 13 = .ok (.aload_n 0, 1) := by decide +kernel
theorem dX6_runs_14 : decode cX6_runs 14 = .ok (.getfield 287, 3) := by decide +kernel
theorem dX6_runs_17 : decode cX6_runs 17 = .ok (.iload_n 1, 1) := by decide +kernel
theorem dX6_runs_18 : decode cX6_runs 18 = .ok (.iastore, 1) := by decide +kernel
theorem dX6_runs_19 : decode cX6_runs 19 = .ok (.aload_n 0, 1) := by decide +kernel
theorem dX6_runs_20 : decode cX6_runs 20 = .ok (.dup, 1) := by decide +kernel
theorem dX6_runs_21 : decode cX6_runs 21 = .ok (.getfield 287, 3) := by decide +kernel
theorem dX6_runs_24 : decode cX6_runs 24 = .ok (.iconst 1, 1) := by decide +kernel
theorem dX6_runs_25 : decode cX6_runs 25 = .ok (.iadd, 1) := by decide +kernel
theorem dX6_runs_26 : decode cX6_runs 26 = .ok (.putfield 287, 3) := by decide +kernel
theorem dX6_runs_29 : decode cX6_runs 29 = .ok (.return_, 1) := by decide +kernel
set_option maxHeartbeats 400000 in
set_option maxRecDepth 20000 in
theorem t_X6_runs (l : Launch) (ad : Nat → Nat) (D : va_G) (cs : Nat → ClassId) (h : Nat → Nat) (σ : Nat → Nat → Int32) (pre post : va_W) (r : Nat) (c : Int32) (hR : σ 22 0 = nI r) (hr0 : r ≤ 30) : CTv l yX6_runs cX6_runs 2 ({ frames := 0, cells := 0, slots := 0, locals := 0 }) ad D (tysW cs) (pre ++ (wM cs h σ ++ post)) [.ref (h 0), .int c] (pre ++ (wM cs h (su (su σ 21 (rnB (σ 21) r c)) 22 (fun _ => nI (rnR r))) ++ post)) := by
  refine CTv.of (lv0 := [(0, .ref (h 0)), (1, .int c)]) (by decide) rfl (Nat.le_of_ble_eq_true rfl) (fun p e s m args below meth c A C hr hlk => ?_)
  have C : Cx p s m args c cX6_runs 2 RX6 ad D (tysW cs) A := C
  refine r_aload_n (pc := 0) C 0 dX6_runs_0 rfl rfl ?_
  refine mg_ran (pc := 1) C fl_RX6_287 dX6_runs_1 (σ 22 0) rfl ?_
  refine r_eqi (y := nI r) (hR) ?_
  refine r_bipush (pc := 4) C 30 dX6_runs_4 (by decide) ?_
  refine r_icmp_ge (pc := 6) C 29 dX6_runs_6 (by decide) (fun c_1 => ?_) (fun c_1 => ?_)
  · skip
    have c_1 := nIc_ge_t (a := r) (b := 30) (by omega) (by omega) c_1
    exact r_vret (pc := 29) C hr hlk dX6_runs_29 (by rw [← rnF (by omega), ← rrF (by omega), ← hR] <;> rfl)
  · skip
    have c_1 := nIc_ge_f (a := r) (b := 30) (by omega) (by omega) c_1
    refine r_aload_n (pc := 9) C 0 dX6_runs_9 rfl rfl ?_
    refine mg_bodies (pc := 10) C fl_RX6_49 dX6_runs_10 ?_
    refine r_aload_n (pc := 13) C 0 dX6_runs_13 rfl rfl ?_
    refine mg_ran (pc := 14) C fl_RX6_287 dX6_runs_14 (σ 22 0) rfl ?_
    refine r_eqi (y := nI r) (hR) ?_
    refine r_iload_n (pc := 17) C 1 dX6_runs_17 rfl rfl ?_
    refine as_bodies (pc := 18) C r (rfl) (by omega) dX6_runs_18 (σ 21) (rfl) ?_
    refine r_aload_n (pc := 19) C 0 dX6_runs_19 rfl rfl ?_
    refine r_dup (pc := 20) C dX6_runs_20 rfl ?_
    refine mg_ran (pc := 21) C fl_RX6_287 dX6_runs_21 (σ 22 0) (congrFun ((su_nn (by decide))) 0) ?_
    refine r_eqi (y := nI r) (hR) ?_
    refine r_iconst (pc := 24) C 1 dX6_runs_24 (by decide) ?_
    refine r_iadd (pc := 25) C dX6_runs_25 ?_
    refine r_eqi (y := nI (r + 1)) (nI_add r 1) ?_
    refine mp_ran (pc := 26) C fl_RX6_287 dX6_runs_26 ?_
    exact r_vret (pc := 29) C hr hlk dX6_runs_29 (by rw [← rnT (by omega), ← rrT (by omega)] <;> rfl)
theorem t_X6_runs' (l : Launch) (ad : Nat → Nat) (D : va_G) (cs : Nat → ClassId) (h : Nat → Nat) (σ : Nat → Nat → Int32) (pre post : va_W) (f21_ : Nat → Int32) (e21_ : σ 21 = f21_) (f22_ : Nat → Int32) (e22_ : σ 22 = f22_) (r : Nat) (c : Int32) (hR : f22_ 0 = nI r) (hr0 : r ≤ 30) : CTv l yX6_runs cX6_runs 2 ({ frames := 0, cells := 0, slots := 0, locals := 0 }) ad D (tysW cs) (pre ++ (wM cs h σ ++ post)) [.ref (h 0), .int c] (pre ++ (wM cs h (su (su σ 21 (rnB (f21_) r c)) 22 (fun _ => nI (rnR r))) ++ post)) := by
  subst e21_; subst e22_
  exact t_X6_runs l ad D cs h σ pre post r c hR hr0
theorem dX6_seesPlain_0 : decode cX6_seesPlain 0 = .ok (.aload_n 0, 1) := by decide +kernel
theorem dX6_seesPlain_1 : decode cX6_seesPlain 1 = .ok (.bipush 10, 2) := by decide +kernel
theorem dX6_seesPlain_3 : decode cX6_seesPlain 3 = .ok (.invokevirtual 290, 3) := by decide +kernel
theorem dX6_seesPlain_6 : decode cX6_seesPlain 6 = .ok (.iload_n 1, 1) := by decide +kernel
theorem dX6_seesPlain_7 : decode cX6_seesPlain 7 = .ok (.aload_n 0, 1) := by decide +kernel
theorem dX6_seesPlain_8 : decode cX6_seesPlain 8 = .ok (.getfield 293, 3) := by decide +kernel
theorem dX6_seesPlain_11 : decode cX6_seesPlain 11 = .ok (.iconst 4, 1) := by decide +kernel
theorem dX6_seesPlain_12 : decode cX6_seesPlain 12 = .ok (.imul, 1) := by decide +kernel
theorem dX6_seesPlain_13 : decode cX6_seesPlain 13 = .ok (.iadd, 1) := by decide +kernel
theorem dX6_seesPlain_14 : decode cX6_seesPlain 14 = .ok (.ireturn, 1) := by decide +kernel
set_option maxHeartbeats 400000 in
set_option maxRecDepth 20000 in
theorem t_X6_seesPlain (l : Launch) (ad : Nat → Nat) (D : va_G) (cs : Nat → ClassId) (h : Nat → Nat) (σ : Nat → Nat → Int32) (pre post : va_W) (r : Nat) (x : Int32) (hR : σ 22 0 = nI r) (hr0 : r ≤ 30) : CTi l yX6_seesPlain cX6_seesPlain 2 .int ({ frames := 1, cells := 0, slots := 0, locals := 21 }) ad D (tysW cs) (pre ++ (wM cs h σ ++ post)) [.ref (h 0), .int x] (sePV (σ 24 0) x) (pre ++ (wM cs h (su (su σ 21 (rnB (σ 21) r 10)) 22 (fun _ => nI (rnR r))) ++ post)) := by
  refine CTi.of (lv0 := [(0, .ref (h 0)), (1, .int x)]) (by decide) rfl (Nat.le_of_ble_eq_true rfl) (fun p e s m args below meth c A C hr hlk => ?_)
  have C : Cx p s m args c cX6_seesPlain 2 RX6 ad D (tysW cs) A := C
  refine r_aload_n (pc := 0) C 0 dX6_seesPlain_0 rfl rfl ?_
  refine r_bipush (pc := 1) C 10 dX6_seesPlain_1 (by decide) ?_
  refine rc_Vv (pc := 3) C (t_X6_runs' l ad D cs h σ pre post (σ 21) (rfl) (σ 22) (rfl) r (10 : Int32) hR hr0) mv_X6_runs ml_RX6_290 rfl ⟨Nat.le_of_ble_eq_true rfl, Nat.le_of_ble_eq_true rfl⟩ ⟨rfl, rfl⟩ (q0 := 0) rfl rfl rfl rfl rfl rfl (Nat.le_of_ble_eq_true rfl) dX6_seesPlain_3 ?_
  refine r_iload_n (pc := 6) C 1 dX6_seesPlain_6 rfl rfl ?_
  refine r_aload_n (pc := 7) C 0 dX6_seesPlain_7 rfl rfl ?_
  refine mg_actN (pc := 8) C fl_RX6_293 dX6_seesPlain_8 (σ 24 0) (congrFun (((su_nn (by decide)).trans (su_nn (by decide)))) 0) ?_
  refine r_iconst (pc := 11) C 4 dX6_seesPlain_11 (by decide) ?_
  refine r_imul (pc := 12) C dX6_seesPlain_12 ?_
  refine r_iadd (pc := 13) C dX6_seesPlain_13 ?_
  exact r_iret (pc := 14) C hr hlk dX6_seesPlain_14 rfl (by first | rfl | (simp [sePV, *]; done) | simp_all [sePV]) (by rw [show (rnB (σ 21) r 10 : Nat → Int32) = rnB (σ 21) r (10 : Int32) from (by first | rfl | (simp [sePV, *]; done) | simp_all [sePV])] <;> rfl)
theorem t_X6_seesPlain' (l : Launch) (ad : Nat → Nat) (D : va_G) (cs : Nat → ClassId) (h : Nat → Nat) (σ : Nat → Nat → Int32) (pre post : va_W) (f21_ : Nat → Int32) (e21_ : σ 21 = f21_) (f22_ : Nat → Int32) (e22_ : σ 22 = f22_) (f24_ : Nat → Int32) (e24_ : σ 24 = f24_) (r : Nat) (x : Int32) (hR : f22_ 0 = nI r) (hr0 : r ≤ 30) : CTi l yX6_seesPlain cX6_seesPlain 2 .int ({ frames := 1, cells := 0, slots := 0, locals := 21 }) ad D (tysW cs) (pre ++ (wM cs h σ ++ post)) [.ref (h 0), .int x] (sePV (f24_ 0) x) (pre ++ (wM cs h (su (su σ 21 (rnB (f21_) r 10)) 22 (fun _ => nI (rnR r))) ++ post)) := by
  subst e21_; subst e22_; subst e24_
  exact t_X6_seesPlain l ad D cs h σ pre post r x hR hr0
theorem dX6_seesOfMagistrate_0 : decode cX6_seesOfMagistrate 0 = .ok (.aload_n 0, 1) := by decide +kernel
theorem dX6_seesOfMagistrate_1 : decode cX6_seesOfMagistrate 1 = .ok (.bipush 30, 2) := by decide +kernel
theorem dX6_seesOfMagistrate_3 : decode cX6_seesOfMagistrate 3 = .ok (.invokevirtual 290, 3) := by decide +kernel
theorem dX6_seesOfMagistrate_6 : decode cX6_seesOfMagistrate 6 = .ok (.aload_n 0, 1) := by decide +kernel
theorem dX6_seesOfMagistrate_7 : decode cX6_seesOfMagistrate 7 = .ok (.iload_n 1, 1) := by decide +kernel
theorem dX6_seesOfMagistrate_8 : decode cX6_seesOfMagistrate 8 = .ok (.invokevirtual 296, 3) := by decide +kernel
theorem dX6_seesOfMagistrate_11 : decode cX6_seesOfMagistrate 11 = .ok (.iconst 2, 1) := by decide +kernel
theorem dX6_seesOfMagistrate_12 : decode cX6_seesOfMagistrate 12 = .ok (.ixor, 1) := by decide +kernel
theorem dX6_seesOfMagistrate_13 : decode cX6_seesOfMagistrate 13 = .ok (.ireturn, 1) := by decide +kernel
set_option maxHeartbeats 400000 in
set_option maxRecDepth 20000 in
theorem t_X6_seesOfMagistrate (l : Launch) (ad : Nat → Nat) (D : va_G) (cs : Nat → ClassId) (h : Nat → Nat) (σ : Nat → Nat → Int32) (pre post : va_W) (r : Nat) (x : Int32) (hR : σ 22 0 = nI r) (hr0 : r ≤ 30) : CTi l yX6_seesOfMagistrate cX6_seesOfMagistrate 2 .int ({ frames := 2, cells := 0, slots := 0, locals := 42 }) ad D (tysW cs) (pre ++ (wM cs h σ ++ post)) [.ref (h 0), .int x] (sePV (σ 24 0) x ^^^ 2) (pre ++ (wM cs h (su (su σ 21 (trB (σ 21) r [30, 10])) 22 (fun _ => nI (trR r [30, 10]))) ++ post)) := by
  refine CTi.of (lv0 := [(0, .ref (h 0)), (1, .int x)]) (by decide) rfl (Nat.le_of_ble_eq_true rfl) (fun p e s m args below meth c A C hr hlk => ?_)
  have C : Cx p s m args c cX6_seesOfMagistrate 2 RX6 ad D (tysW cs) A := C
  refine r_aload_n (pc := 0) C 0 dX6_seesOfMagistrate_0 rfl rfl ?_
  refine r_bipush (pc := 1) C 30 dX6_seesOfMagistrate_1 (by decide) ?_
  refine rc_Vv (pc := 3) C (t_X6_runs' l ad D cs h σ pre post (σ 21) (rfl) (σ 22) (rfl) r (30 : Int32) hR hr0) mv_X6_runs ml_RX6_290 rfl ⟨Nat.le_of_ble_eq_true rfl, Nat.le_of_ble_eq_true rfl⟩ ⟨rfl, rfl⟩ (q0 := 0) rfl rfl rfl rfl rfl rfl (Nat.le_of_ble_eq_true rfl) dX6_seesOfMagistrate_3 ?_
  refine r_aload_n (pc := 6) C 0 dX6_seesOfMagistrate_6 rfl rfl ?_
  refine r_iload_n (pc := 7) C 1 dX6_seesOfMagistrate_7 rfl rfl ?_
  refine rc_Vi (pc := 8) C (t_X6_seesPlain' l ad D cs h (su (su σ 21 (rnB (σ 21) r (30 : Int32))) 22 (fun _ => nI (rnR r))) pre post (rnB (σ 21) r (30 : Int32)) ((su_nn (by decide)).trans su_at) (fun _ => nI (rnR r)) (su_at) (σ 24) (((su_nn (by decide)).trans (su_nn (by decide)))) (rnR r) x rfl (rnR_le hr0)) mv_X6_seesPlain ml_RX6_296 rfl ⟨Nat.le_of_ble_eq_true rfl, Nat.le_of_ble_eq_true rfl⟩ ⟨rfl, rfl⟩ (q0 := 0) rfl rfl rfl rfl rfl rfl (Nat.le_of_ble_eq_true rfl) dX6_seesOfMagistrate_8 ?_
  refine r_blk (blk' := wM cs h (su (su σ 21 (rnB (rnB (σ 21) r (30 : Int32)) (rnR r) 10)) 22 (fun _ => nI (rnR (rnR r))))) (congrArg (wM cs h) (by rw [su_cm (k := 22) (j := 21) (by decide), su_su (k := 21), su_su (k := 22)])) ?_
  refine r_iconst (pc := 11) C 2 dX6_seesOfMagistrate_11 (by decide) ?_
  refine r_ixor (pc := 12) C dX6_seesOfMagistrate_12 ?_
  exact r_iret (pc := 13) C hr hlk dX6_seesOfMagistrate_13 rfl (by first | rfl | (simp [sePV, *]; done) | simp_all [sePV]) (by rw [show (trB (σ 21) r [30, 10] : Nat → Int32) = rnB (rnB (σ 21) r (30 : Int32)) (rnR r) 10 from (by first | rfl | (simp [sePV, *]; done) | simp_all [sePV]), show (fun _ => nI (trR r [30, 10]) : Nat → Int32) = fun _ => nI (rnR (rnR r)) from (by first | rfl | (simp [sePV, *]; done) | simp_all [sePV])] <;> rfl)
theorem t_X6_seesOfMagistrate' (l : Launch) (ad : Nat → Nat) (D : va_G) (cs : Nat → ClassId) (h : Nat → Nat) (σ : Nat → Nat → Int32) (pre post : va_W) (f21_ : Nat → Int32) (e21_ : σ 21 = f21_) (f22_ : Nat → Int32) (e22_ : σ 22 = f22_) (f24_ : Nat → Int32) (e24_ : σ 24 = f24_) (r : Nat) (x : Int32) (hR : f22_ 0 = nI r) (hr0 : r ≤ 30) : CTi l yX6_seesOfMagistrate cX6_seesOfMagistrate 2 .int ({ frames := 2, cells := 0, slots := 0, locals := 42 }) ad D (tysW cs) (pre ++ (wM cs h σ ++ post)) [.ref (h 0), .int x] (sePV (f24_ 0) x ^^^ 2) (pre ++ (wM cs h (su (su σ 21 (trB (f21_) r [30, 10])) 22 (fun _ => nI (trR r [30, 10]))) ++ post)) := by
  subst e21_; subst e22_; subst e24_
  exact t_X6_seesOfMagistrate l ad D cs h σ pre post r x hR hr0
theorem dX6_seesBy_0 : decode cX6_seesBy 0 = .ok (.aload_n 0, 1) := by decide +kernel
theorem dX6_seesBy_1 : decode cX6_seesBy 1 = .ok (.getfield 299, 3) := by decide +kernel
theorem dX6_seesBy_4 : decode cX6_seesBy 4 = .ok (.tableswitch 65 2 4 #[28, 48, 34], 28) := by decide +kernel
theorem dX6_seesBy_32 : decode cX6_seesBy 32 = .ok (.aload_n 0, 1) := by decide +kernel
theorem dX6_seesBy_33 : decode cX6_seesBy 33 = .ok (.iload_n 1, 1) := by decide +kernel
theorem dX6_seesBy_34 : decode cX6_seesBy 34 = .ok (.invokevirtual 302, 3) := by decide +kernel
theorem dX6_seesBy_37 : decode cX6_seesBy 37 = .ok (.ireturn, 1) := by decide +kernel
theorem dX6_seesBy_38 : decode cX6_seesBy 38 = .ok (.aload_n 0, 1) := by decide +kernel
theorem dX6_seesBy_39 : decode cX6_seesBy 39 = .ok (.bipush 40, 2) := by decide +kernel
theorem dX6_seesBy_41 : decode cX6_seesBy 41 = .ok (.invokevirtual 290, 3) := by decide +kernel
theorem dX6_seesBy_44 : decode cX6_seesBy 44 = .ok (.iconst 3, 1) := by decide +kernel
theorem dX6_seesBy_45 : decode cX6_seesBy 45 = .ok (.aload_n 0, 1) := by decide +kernel
theorem dX6_seesBy_46 : decode cX6_seesBy 46 = .ok (.iload_n 1, 1) := by decide +kernel
theorem dX6_seesBy_47 : decode cX6_seesBy 47 = .ok (.invokevirtual 302, 3) := by decide +kernel
theorem dX6_seesBy_50 : decode cX6_seesBy 50 = .ok (.isub, 1) := by decide +kernel
theorem dX6_seesBy_51 : decode cX6_seesBy 51 = .ok (.ireturn, 1) := by decide +kernel
theorem dX6_seesBy_52 : decode cX6_seesBy 52 = .ok (.aload_n 0, 1) := by decide +kernel
theorem dX6_seesBy_53 : decode cX6_seesBy 53 = .ok (.bipush 51, 2) := by decide +kernel
theorem dX6_seesBy_55 : decode cX6_seesBy 55 = .ok (.invokevirtual 290, 3) := by decide +kernel
theorem dX6_seesBy_58 : decode cX6_seesBy 58 = .ok (.aload_n 0, 1) := by decide +kernel
theorem dX6_seesBy_59 : decode cX6_seesBy 59 = .ok (.iload_n 1, 1) := by decide +kernel
theorem dX6_seesBy_60 : decode cX6_seesBy 60 = .ok (.invokevirtual 296, 3) := by decide +kernel
theorem dX6_seesBy_63 : decode cX6_seesBy 63 = .ok (.aload_n 0, 1) := by decide +kernel
theorem dX6_seesBy_64 : decode cX6_seesBy 64 = .ok (.getfield 305, 3) := by decide +kernel
theorem dX6_seesBy_67 : decode cX6_seesBy 67 = .ok (.iadd, 1) := by decide +kernel
theorem dX6_seesBy_68 : decode cX6_seesBy 68 = .ok (.ireturn, 1) := by decide +kernel
theorem dX6_seesBy_69 : decode cX6_seesBy 69 = .ok (.aload_n 0, 1) := by decide +kernel
theorem dX6_seesBy_70 : decode cX6_seesBy 70 = .ok (.iload_n 1, 1) := by decide +kernel
theorem dX6_seesBy_71 : decode cX6_seesBy 71 = .ok (.invokevirtual 296, 3) := by decide +kernel
theorem dX6_seesBy_74 : decode cX6_seesBy 74 = .ok (.ireturn, 1) := by decide +kernel
set_option maxHeartbeats 400000 in
set_option maxRecDepth 20000 in
theorem t_X6_seesBy (l : Launch) (ad : Nat → Nat) (D : va_G) (cs : Nat → ClassId) (h : Nat → Nat) (σ : Nat → Nat → Int32) (pre post : va_W) (r : Nat) (x : Int32) (hR : σ 22 0 = nI r) (hr0 : r ≤ 30) : CTi l yX6_seesBy cX6_seesBy 2 .int ({ frames := 3, cells := 0, slots := 0, locals := 63 }) ad D (tysW cs) (pre ++ (wM cs h σ ++ post)) [.ref (h 0), .int x] (seV (σ 23 0) (σ 24 0) (σ 25 0) x) (pre ++ (wM cs h (su (su σ 21 (trB (σ 21) r (seC (σ 23 0)))) 22 (fun _ => nI (trR r (seC (σ 23 0))))) ++ post)) := by
  refine CTi.of (lv0 := [(0, .ref (h 0)), (1, .int x)]) (by decide) rfl (Nat.le_of_ble_eq_true rfl) (fun p e s m args below meth c A C hr hlk => ?_)
  have C : Cx p s m args c cX6_seesBy 2 RX6 ad D (tysW cs) A := C
  refine r_aload_n (pc := 0) C 0 dX6_seesBy_0 rfl rfl ?_
  refine mg_actKind (pc := 1) C fl_RX6_299 dX6_seesBy_1 (σ 23 0) rfl ?_
  have w_1 := sw_cases (σ 23 0) 2 4 (by decide)
  rcases w_1 with w_1 | w_1
  · skip
    refine r_tableOut (pc := 4) C 28 69 dX6_seesBy_4 w_1 (by decide) ?_
    have w_1_2 : ¬ (σ 23 0) = 2 := fun q => by rw [q] at w_1; revert w_1; decide
    have w_1_3 : ¬ (σ 23 0) = 3 := fun q => by rw [q] at w_1; revert w_1; decide
    have w_1_4 : ¬ (σ 23 0) = 4 := fun q => by rw [q] at w_1; revert w_1; decide
    refine r_aload_n (pc := 69) C 0 dX6_seesBy_69 rfl rfl ?_
    refine r_iload_n (pc := 70) C 1 dX6_seesBy_70 rfl rfl ?_
    refine rc_Vi (pc := 71) C (t_X6_seesPlain' l ad D cs h σ pre post (σ 21) (rfl) (σ 22) (rfl) (σ 24) (rfl) r x hR hr0) mv_X6_seesPlain ml_RX6_296 rfl ⟨Nat.le_of_ble_eq_true rfl, Nat.le_of_ble_eq_true rfl⟩ ⟨rfl, rfl⟩ (q0 := 0) rfl rfl rfl rfl rfl rfl (Nat.le_of_ble_eq_true rfl) dX6_seesBy_71 ?_
    exact r_iret (pc := 74) C hr hlk dX6_seesBy_74 rfl (by first | rfl | (simp [seV, seC, trB, trR, *]; done) | simp_all [seV, seC, trB, trR]) (by rw [show (trB (σ 21) r (seC (σ 23 0)) : Nat → Int32) = rnB (σ 21) r 10 from (by first | rfl | (simp [seV, seC, trB, trR, *]; done) | simp_all [seV, seC, trB, trR]), show (fun _ => nI (trR r (seC (σ 23 0))) : Nat → Int32) = fun _ => nI (rnR r) from (by first | rfl | (simp [seV, seC, trB, trR, *]; done) | simp_all [seV, seC, trB, trR])] <;> rfl)
  · obtain ⟨i_1, hi_1, w_1⟩ := w_1
    have hc_1 : i_1 = 0 ∨ i_1 = 1 ∨ i_1 = 2 := by omega
    rcases hc_1 with rfl | rfl | rfl
    · skip
      refine r_tableIn (pc := 4) C 28 32 dX6_seesBy_4 (by rw [w_1]; decide) (by rw [w_1]; decide) (by rw [w_1]; rfl) (by decide) ?_
      have w_1 : σ 23 0 = 2 := Int32.toInt_inj.mp (by rw [w_1]; rfl)
      refine r_aload_n (pc := 32) C 0 dX6_seesBy_32 rfl rfl ?_
      refine r_iload_n (pc := 33) C 1 dX6_seesBy_33 rfl rfl ?_
      refine rc_Vi (pc := 34) C (t_X6_seesOfMagistrate' l ad D cs h σ pre post (σ 21) (rfl) (σ 22) (rfl) (σ 24) (rfl) r x hR hr0) mv_X6_seesOfMagistrate ml_RX6_302 rfl ⟨Nat.le_of_ble_eq_true rfl, Nat.le_of_ble_eq_true rfl⟩ ⟨rfl, rfl⟩ (q0 := 0) rfl rfl rfl rfl rfl rfl (Nat.le_of_ble_eq_true rfl) dX6_seesBy_34 ?_
      exact r_iret (pc := 37) C hr hlk dX6_seesBy_37 rfl (by first | rfl | (simp [seV, seC, trB, trR, *]; done) | simp_all [seV, seC, trB, trR]) (by rw [show (trB (σ 21) r (seC (σ 23 0)) : Nat → Int32) = trB (σ 21) r [30, 10] from (by first | rfl | (simp [seV, seC, trB, trR, *]; done) | simp_all [seV, seC, trB, trR]), show (fun _ => nI (trR r (seC (σ 23 0))) : Nat → Int32) = fun _ => nI (trR r [30, 10]) from (by first | rfl | (simp [seV, seC, trB, trR, *]; done) | simp_all [seV, seC, trB, trR])] <;> rfl)
    · skip
      refine r_tableIn (pc := 4) C 28 52 dX6_seesBy_4 (by rw [w_1]; decide) (by rw [w_1]; decide) (by rw [w_1]; rfl) (by decide) ?_
      have w_1 : σ 23 0 = 3 := Int32.toInt_inj.mp (by rw [w_1]; rfl)
      refine r_aload_n (pc := 52) C 0 dX6_seesBy_52 rfl rfl ?_
      refine r_bipush (pc := 53) C 51 dX6_seesBy_53 (by decide) ?_
      refine rc_Vv (pc := 55) C (t_X6_runs' l ad D cs h σ pre post (σ 21) (rfl) (σ 22) (rfl) r (51 : Int32) hR hr0) mv_X6_runs ml_RX6_290 rfl ⟨Nat.le_of_ble_eq_true rfl, Nat.le_of_ble_eq_true rfl⟩ ⟨rfl, rfl⟩ (q0 := 0) rfl rfl rfl rfl rfl rfl (Nat.le_of_ble_eq_true rfl) dX6_seesBy_55 ?_
      refine r_aload_n (pc := 58) C 0 dX6_seesBy_58 rfl rfl ?_
      refine r_iload_n (pc := 59) C 1 dX6_seesBy_59 rfl rfl ?_
      refine rc_Vi (pc := 60) C (t_X6_seesPlain' l ad D cs h (su (su σ 21 (rnB (σ 21) r (51 : Int32))) 22 (fun _ => nI (rnR r))) pre post (rnB (σ 21) r (51 : Int32)) ((su_nn (by decide)).trans su_at) (fun _ => nI (rnR r)) (su_at) (σ 24) (((su_nn (by decide)).trans (su_nn (by decide)))) (rnR r) x rfl (rnR_le hr0)) mv_X6_seesPlain ml_RX6_296 rfl ⟨Nat.le_of_ble_eq_true rfl, Nat.le_of_ble_eq_true rfl⟩ ⟨rfl, rfl⟩ (q0 := 0) rfl rfl rfl rfl rfl rfl (Nat.le_of_ble_eq_true rfl) dX6_seesBy_60 ?_
      refine r_blk (blk' := wM cs h (su (su σ 21 (rnB (rnB (σ 21) r (51 : Int32)) (rnR r) 10)) 22 (fun _ => nI (rnR (rnR r))))) (congrArg (wM cs h) (by rw [su_cm (k := 22) (j := 21) (by decide), su_su (k := 21), su_su (k := 22)])) ?_
      refine r_aload_n (pc := 63) C 0 dX6_seesBy_63 rfl rfl ?_
      refine mg_actA (pc := 64) C fl_RX6_305 dX6_seesBy_64 (σ 25 0) (congrFun (((su_nn (by decide)).trans (su_nn (by decide)))) 0) ?_
      refine r_iadd (pc := 67) C dX6_seesBy_67 ?_
      exact r_iret (pc := 68) C hr hlk dX6_seesBy_68 rfl (by first | rfl | (simp [seV, seC, trB, trR, *]; done) | simp_all [seV, seC, trB, trR]) (by rw [show (trB (σ 21) r (seC (σ 23 0)) : Nat → Int32) = rnB (rnB (σ 21) r (51 : Int32)) (rnR r) 10 from (by first | rfl | (simp [seV, seC, trB, trR, *]; done) | simp_all [seV, seC, trB, trR]), show (fun _ => nI (trR r (seC (σ 23 0))) : Nat → Int32) = fun _ => nI (rnR (rnR r)) from (by first | rfl | (simp [seV, seC, trB, trR, *]; done) | simp_all [seV, seC, trB, trR])] <;> rfl)
    · skip
      refine r_tableIn (pc := 4) C 28 38 dX6_seesBy_4 (by rw [w_1]; decide) (by rw [w_1]; decide) (by rw [w_1]; rfl) (by decide) ?_
      have w_1 : σ 23 0 = 4 := Int32.toInt_inj.mp (by rw [w_1]; rfl)
      refine r_aload_n (pc := 38) C 0 dX6_seesBy_38 rfl rfl ?_
      refine r_bipush (pc := 39) C 40 dX6_seesBy_39 (by decide) ?_
      refine rc_Vv (pc := 41) C (t_X6_runs' l ad D cs h σ pre post (σ 21) (rfl) (σ 22) (rfl) r (40 : Int32) hR hr0) mv_X6_runs ml_RX6_290 rfl ⟨Nat.le_of_ble_eq_true rfl, Nat.le_of_ble_eq_true rfl⟩ ⟨rfl, rfl⟩ (q0 := 0) rfl rfl rfl rfl rfl rfl (Nat.le_of_ble_eq_true rfl) dX6_seesBy_41 ?_
      refine r_iconst (pc := 44) C 3 dX6_seesBy_44 (by decide) ?_
      refine r_aload_n (pc := 45) C 0 dX6_seesBy_45 rfl rfl ?_
      refine r_iload_n (pc := 46) C 1 dX6_seesBy_46 rfl rfl ?_
      refine rc_Vi (pc := 47) C (t_X6_seesOfMagistrate' l ad D cs h (su (su σ 21 (rnB (σ 21) r (40 : Int32))) 22 (fun _ => nI (rnR r))) pre post (rnB (σ 21) r (40 : Int32)) ((su_nn (by decide)).trans su_at) (fun _ => nI (rnR r)) (su_at) (σ 24) (((su_nn (by decide)).trans (su_nn (by decide)))) (rnR r) x rfl (rnR_le hr0)) mv_X6_seesOfMagistrate ml_RX6_302 rfl ⟨Nat.le_of_ble_eq_true rfl, Nat.le_of_ble_eq_true rfl⟩ ⟨rfl, rfl⟩ (q0 := 0) rfl rfl rfl rfl rfl rfl (Nat.le_of_ble_eq_true rfl) dX6_seesBy_47 ?_
      refine r_blk (blk' := wM cs h (su (su σ 21 (trB (rnB (σ 21) r (40 : Int32)) (rnR r) [30, 10])) 22 (fun _ => nI (trR (rnR r) [30, 10])))) (congrArg (wM cs h) (by rw [su_cm (k := 22) (j := 21) (by decide), su_su (k := 21), su_su (k := 22)])) ?_
      refine r_isub (pc := 50) C dX6_seesBy_50 ?_
      exact r_iret (pc := 51) C hr hlk dX6_seesBy_51 rfl (by first | rfl | (simp [seV, seC, trB, trR, *]; done) | simp_all [seV, seC, trB, trR]) (by rw [show (trB (σ 21) r (seC (σ 23 0)) : Nat → Int32) = trB (rnB (σ 21) r (40 : Int32)) (rnR r) [30, 10] from (by first | rfl | (simp [seV, seC, trB, trR, *]; done) | simp_all [seV, seC, trB, trR]), show (fun _ => nI (trR r (seC (σ 23 0))) : Nat → Int32) = fun _ => nI (trR (rnR r) [30, 10]) from (by first | rfl | (simp [seV, seC, trB, trR, *]; done) | simp_all [seV, seC, trB, trR])] <;> rfl)
theorem t_X6_seesBy' (l : Launch) (ad : Nat → Nat) (D : va_G) (cs : Nat → ClassId) (h : Nat → Nat) (σ : Nat → Nat → Int32) (pre post : va_W) (f21_ : Nat → Int32) (e21_ : σ 21 = f21_) (f22_ : Nat → Int32) (e22_ : σ 22 = f22_) (f23_ : Nat → Int32) (e23_ : σ 23 = f23_) (f24_ : Nat → Int32) (e24_ : σ 24 = f24_) (f25_ : Nat → Int32) (e25_ : σ 25 = f25_) (r : Nat) (x : Int32) (hR : f22_ 0 = nI r) (hr0 : r ≤ 30) : CTi l yX6_seesBy cX6_seesBy 2 .int ({ frames := 3, cells := 0, slots := 0, locals := 63 }) ad D (tysW cs) (pre ++ (wM cs h σ ++ post)) [.ref (h 0), .int x] (seV (f23_ 0) (f24_ 0) (f25_ 0) x) (pre ++ (wM cs h (su (su σ 21 (trB (f21_) r (seC (f23_ 0)))) 22 (fun _ => nI (trR r (seC (f23_ 0))))) ++ post)) := by
  subst e21_; subst e22_; subst e23_; subst e24_; subst e25_
  exact t_X6_seesBy l ad D cs h σ pre post r x hR hr0
theorem dX6_paysPlain_0 : decode cX6_paysPlain 0 = .ok (.aload_n 0, 1) := by decide +kernel
theorem dX6_paysPlain_1 : decode cX6_paysPlain 1 = .ok (.bipush 11, 2) := by decide +kernel
theorem dX6_paysPlain_3 : decode cX6_paysPlain 3 = .ok (.invokevirtual 290, 3) := by decide +kernel
theorem dX6_paysPlain_6 : decode cX6_paysPlain 6 = .ok (.aload_n 0, 1) := by decide +kernel
theorem dX6_paysPlain_7 : decode cX6_paysPlain 7 = .ok (.iload_n 1, 1) := by decide +kernel
theorem dX6_paysPlain_8 : decode cX6_paysPlain 8 = .ok (.invokevirtual 308, 3) := by decide +kernel
theorem dX6_paysPlain_11 : decode cX6_paysPlain 11 = .ok (.iconst 3, 1) := by decide +kernel
theorem dX6_paysPlain_12 : decode cX6_paysPlain 12 = .ok (.imul, 1) := by decide +kernel
theorem dX6_paysPlain_13 : decode cX6_paysPlain 13 = .ok (.aload_n 0, 1) := by decide +kernel
theorem dX6_paysPlain_14 : decode cX6_paysPlain 14 = .ok (.getfield 305, 3) := by decide +kernel
theorem dX6_paysPlain_17 : decode cX6_paysPlain 17 = .ok (.isub, 1) := by decide +kernel
theorem dX6_paysPlain_18 : decode cX6_paysPlain 18 = .ok (.ireturn, 1) := by decide +kernel
set_option maxHeartbeats 400000 in
set_option maxRecDepth 20000 in
theorem t_X6_paysPlain (l : Launch) (ad : Nat → Nat) (D : va_G) (cs : Nat → ClassId) (h : Nat → Nat) (σ : Nat → Nat → Int32) (pre post : va_W) (r : Nat) (x : Int32) (hR : σ 22 0 = nI r) (hr0 : r ≤ 30) : CTi l yX6_paysPlain cX6_paysPlain 2 .int ({ frames := 4, cells := 0, slots := 0, locals := 84 }) ad D (tysW cs) (pre ++ (wM cs h σ ++ post)) [.ref (h 0), .int x] (paPV (σ 23 0) (σ 24 0) (σ 25 0) x) (pre ++ (wM cs h (su (su σ 21 (trB (σ 21) r (paPC (σ 23 0)))) 22 (fun _ => nI (trR r (paPC (σ 23 0))))) ++ post)) := by
  refine CTi.of (lv0 := [(0, .ref (h 0)), (1, .int x)]) (by decide) rfl (Nat.le_of_ble_eq_true rfl) (fun p e s m args below meth c A C hr hlk => ?_)
  have C : Cx p s m args c cX6_paysPlain 2 RX6 ad D (tysW cs) A := C
  refine r_aload_n (pc := 0) C 0 dX6_paysPlain_0 rfl rfl ?_
  refine r_bipush (pc := 1) C 11 dX6_paysPlain_1 (by decide) ?_
  refine rc_Vv (pc := 3) C (t_X6_runs' l ad D cs h σ pre post (σ 21) (rfl) (σ 22) (rfl) r (11 : Int32) hR hr0) mv_X6_runs ml_RX6_290 rfl ⟨Nat.le_of_ble_eq_true rfl, Nat.le_of_ble_eq_true rfl⟩ ⟨rfl, rfl⟩ (q0 := 0) rfl rfl rfl rfl rfl rfl (Nat.le_of_ble_eq_true rfl) dX6_paysPlain_3 ?_
  refine r_aload_n (pc := 6) C 0 dX6_paysPlain_6 rfl rfl ?_
  refine r_iload_n (pc := 7) C 1 dX6_paysPlain_7 rfl rfl ?_
  refine rc_Vi (pc := 8) C (t_X6_seesBy' l ad D cs h (su (su σ 21 (rnB (σ 21) r (11 : Int32))) 22 (fun _ => nI (rnR r))) pre post (rnB (σ 21) r (11 : Int32)) ((su_nn (by decide)).trans su_at) (fun _ => nI (rnR r)) (su_at) (σ 23) (((su_nn (by decide)).trans (su_nn (by decide)))) (σ 24) (((su_nn (by decide)).trans (su_nn (by decide)))) (σ 25) (((su_nn (by decide)).trans (su_nn (by decide)))) (rnR r) x rfl (rnR_le hr0)) mv_X6_seesBy ml_RX6_308 rfl ⟨Nat.le_of_ble_eq_true rfl, Nat.le_of_ble_eq_true rfl⟩ ⟨rfl, rfl⟩ (q0 := 0) rfl rfl rfl rfl rfl rfl (Nat.le_of_ble_eq_true rfl) dX6_paysPlain_8 ?_
  refine r_blk (blk' := wM cs h (su (su σ 21 (trB (rnB (σ 21) r (11 : Int32)) (rnR r) (seC (σ 23 0)))) 22 (fun _ => nI (trR (rnR r) (seC (σ 23 0)))))) (congrArg (wM cs h) (by rw [su_cm (k := 22) (j := 21) (by decide), su_su (k := 21), su_su (k := 22)])) ?_
  refine r_iconst (pc := 11) C 3 dX6_paysPlain_11 (by decide) ?_
  refine r_imul (pc := 12) C dX6_paysPlain_12 ?_
  refine r_aload_n (pc := 13) C 0 dX6_paysPlain_13 rfl rfl ?_
  refine mg_actA (pc := 14) C fl_RX6_305 dX6_paysPlain_14 (σ 25 0) (congrFun (((su_nn (by decide)).trans (su_nn (by decide)))) 0) ?_
  refine r_isub (pc := 17) C dX6_paysPlain_17 ?_
  exact r_iret (pc := 18) C hr hlk dX6_paysPlain_18 rfl (by first | rfl | (simp [paPV, *]; done) | simp_all [paPV]) (by rw [show (trB (σ 21) r (paPC (σ 23 0)) : Nat → Int32) = trB (rnB (σ 21) r (11 : Int32)) (rnR r) (seC (σ 23 0)) from (by first | rfl | (simp [paPV, *]; done) | simp_all [paPV]), show (fun _ => nI (trR r (paPC (σ 23 0))) : Nat → Int32) = fun _ => nI (trR (rnR r) (seC (σ 23 0))) from (by first | rfl | (simp [paPV, *]; done) | simp_all [paPV])] <;> rfl)
theorem t_X6_paysPlain' (l : Launch) (ad : Nat → Nat) (D : va_G) (cs : Nat → ClassId) (h : Nat → Nat) (σ : Nat → Nat → Int32) (pre post : va_W) (f21_ : Nat → Int32) (e21_ : σ 21 = f21_) (f22_ : Nat → Int32) (e22_ : σ 22 = f22_) (f23_ : Nat → Int32) (e23_ : σ 23 = f23_) (f24_ : Nat → Int32) (e24_ : σ 24 = f24_) (f25_ : Nat → Int32) (e25_ : σ 25 = f25_) (r : Nat) (x : Int32) (hR : f22_ 0 = nI r) (hr0 : r ≤ 30) : CTi l yX6_paysPlain cX6_paysPlain 2 .int ({ frames := 4, cells := 0, slots := 0, locals := 84 }) ad D (tysW cs) (pre ++ (wM cs h σ ++ post)) [.ref (h 0), .int x] (paPV (f23_ 0) (f24_ 0) (f25_ 0) x) (pre ++ (wM cs h (su (su σ 21 (trB (f21_) r (paPC (f23_ 0)))) 22 (fun _ => nI (trR r (paPC (f23_ 0))))) ++ post)) := by
  subst e21_; subst e22_; subst e23_; subst e24_; subst e25_
  exact t_X6_paysPlain l ad D cs h σ pre post r x hR hr0
theorem dX6_paysBy_0 : decode cX6_paysBy 0 = .ok (.aload_n 0, 1) := by decide +kernel
theorem dX6_paysBy_1 : decode cX6_paysBy 1 = .ok (.getfield 299, 3) := by decide +kernel
theorem dX6_paysBy_4 : decode cX6_paysBy 4 = .ok (.iconst 1, 1) := by decide +kernel
theorem dX6_paysBy_5 : decode cX6_paysBy 5 = .ok (.if_icmp .eq 11, 3) := by decide +kernel
theorem dX6_paysBy_8 : decode cX6_paysBy 8 = .ok (.aload_n 0, 1) := by decide +kernel
theorem dX6_paysBy_9 : decode cX6_paysBy 9 = .ok (.getfield 299, 3) := by decide +kernel
theorem dX6_paysBy_12 : decode cX6_paysBy 12 = .ok (.iconst 3, 1) := by decide +kernel
theorem dX6_paysBy_13 : decode cX6_paysBy 13 = .ok (.if_icmp .ne 18, 3) := by decide +kernel
theorem dX6_paysBy_16 : decode cX6_paysBy 16 = .ok (.aload_n 0, 1) := by decide +kernel
theorem dX6_paysBy_17 : decode cX6_paysBy 17 = .ok (.bipush 20, 2) := by decide +kernel
theorem dX6_paysBy_19 : decode cX6_paysBy 19 = .ok (.invokevirtual 290, 3) := by decide +kernel
theorem dX6_paysBy_22 : decode cX6_paysBy 22 = .ok (.aload_n 0, 1) := by decide +kernel
theorem dX6_paysBy_23 : decode cX6_paysBy 23 = .ok (.iload_n 1, 1) := by decide +kernel
theorem dX6_paysBy_24 : decode cX6_paysBy 24 = .ok (.invokevirtual 311, 3) := by decide +kernel
theorem dX6_paysBy_27 : decode cX6_paysBy 27 = .ok (.bipush 6, 2) := by decide +kernel
theorem dX6_paysBy_29 : decode cX6_paysBy 29 = .ok (.isub, 1) := by decide +kernel
theorem dX6_paysBy_30 : decode cX6_paysBy 30 = .ok (.ireturn, 1) := by decide +kernel
theorem dX6_paysBy_31 : decode cX6_paysBy 31 = .ok (.aload_n 0, 1) := by decide +kernel
theorem dX6_paysBy_32 : decode cX6_paysBy 32 = .ok (.getfield 299, 3) := by decide +kernel
theorem dX6_paysBy_35 : decode cX6_paysBy 35 = .ok (.iconst 4, 1) := by decide +kernel
theorem dX6_paysBy_36 : decode cX6_paysBy 36 = .ok (.if_icmp .ne 26, 3) := by decide +kernel
theorem dX6_paysBy_39 : decode cX6_paysBy 39 = .ok (.aload_n 0, 1) := by decide +kernel
theorem dX6_paysBy_40 : decode cX6_paysBy 40 = .ok (.bipush 41, 2) := by decide +kernel
theorem dX6_paysBy_42 : decode cX6_paysBy 42 = .ok (.invokevirtual 290, 3) := by decide +kernel
theorem dX6_paysBy_45 : decode cX6_paysBy 45 = .ok (.aload_n 0, 1) := by decide +kernel
theorem dX6_paysBy_46 : decode cX6_paysBy 46 = .ok (.iload_n 1, 1) := by decide +kernel
theorem dX6_paysBy_47 : decode cX6_paysBy 47 = .ok (.invokevirtual 311, 3) := by decide +kernel
theorem dX6_paysBy_50 : decode cX6_paysBy 50 = .ok (.istore_n 2, 1) := by decide +kernel
theorem dX6_paysBy_51 : decode cX6_paysBy 51 = .ok (.iload_n 2, 1) := by decide +kernel
theorem dX6_paysBy_52 : decode cX6_paysBy 52 = .ok (.aload_n 0, 1) := by decide +kernel
theorem dX6_paysBy_53 : decode cX6_paysBy 53 = .ok (.aload_n 0, 1) := by decide +kernel
theorem dX6_paysBy_54 : decode cX6_paysBy 54 = .ok (.getfield 305, 3) := by decide +kernel
theorem dX6_paysBy_57 : decode cX6_paysBy 57 = .ok (.invokevirtual 308, 3) := by decide +kernel
theorem dX6_paysBy_60 : decode cX6_paysBy 60 = .ok (.ixor, 1) := by decide +kernel
theorem dX6_paysBy_61 : decode cX6_paysBy 61 = .ok (.ireturn, 1) := by decide +kernel
theorem dX6_paysBy_62 : decode cX6_paysBy 62 = .ok (.aload_n 0, 1) := by decide +kernel
theorem dX6_paysBy_63 : decode cX6_paysBy 63 = .ok (.iload_n 1, 1) := by decide +kernel
theorem dX6_paysBy_64 : decode cX6_paysBy 64 = .ok (.invokevirtual 311, 3) := by decide +kernel
theorem dX6_paysBy_67 : decode cX6_paysBy 67 = .ok (.ireturn, 1) := by decide +kernel
set_option maxHeartbeats 400000 in
set_option maxRecDepth 20000 in
theorem t_X6_paysBy (l : Launch) (ad : Nat → Nat) (D : va_G) (cs : Nat → ClassId) (h : Nat → Nat) (σ : Nat → Nat → Int32) (pre post : va_W) (r : Nat) (x : Int32) (hR : σ 22 0 = nI r) (hr0 : r ≤ 30) : CTi l yX6_paysBy cX6_paysBy 3 .int ({ frames := 5, cells := 0, slots := 0, locals := 105 }) ad D (tysW cs) (pre ++ (wM cs h σ ++ post)) [.ref (h 0), .int x] (paV (σ 23 0) (σ 24 0) (σ 25 0) x) (pre ++ (wM cs h (su (su σ 21 (trB (σ 21) r (paC (σ 23 0)))) 22 (fun _ => nI (trR r (paC (σ 23 0))))) ++ post)) := by
  refine CTi.of (lv0 := [(0, .ref (h 0)), (1, .int x)]) (by decide) rfl (Nat.le_of_ble_eq_true rfl) (fun p e s m args below meth c A C hr hlk => ?_)
  have C : Cx p s m args c cX6_paysBy 3 RX6 ad D (tysW cs) A := C
  refine r_aload_n (pc := 0) C 0 dX6_paysBy_0 rfl rfl ?_
  refine mg_actKind (pc := 1) C fl_RX6_299 dX6_paysBy_1 (σ 23 0) rfl ?_
  refine r_iconst (pc := 4) C 1 dX6_paysBy_4 (by decide) ?_
  refine r_icmp_eq (pc := 5) C 16 dX6_paysBy_5 (by decide) (fun c_1 => ?_) (fun c_1 => ?_)
  · skip
    refine r_aload_n (pc := 16) C 0 dX6_paysBy_16 rfl rfl ?_
    refine r_bipush (pc := 17) C 20 dX6_paysBy_17 (by decide) ?_
    refine rc_Vv (pc := 19) C (t_X6_runs' l ad D cs h σ pre post (σ 21) (rfl) (σ 22) (rfl) r (20 : Int32) hR hr0) mv_X6_runs ml_RX6_290 rfl ⟨Nat.le_of_ble_eq_true rfl, Nat.le_of_ble_eq_true rfl⟩ ⟨rfl, rfl⟩ (q0 := 0) rfl rfl rfl rfl rfl rfl (Nat.le_of_ble_eq_true rfl) dX6_paysBy_19 ?_
    refine r_aload_n (pc := 22) C 0 dX6_paysBy_22 rfl rfl ?_
    refine r_iload_n (pc := 23) C 1 dX6_paysBy_23 rfl rfl ?_
    refine rc_Vi (pc := 24) C (t_X6_paysPlain' l ad D cs h (su (su σ 21 (rnB (σ 21) r (20 : Int32))) 22 (fun _ => nI (rnR r))) pre post (rnB (σ 21) r (20 : Int32)) ((su_nn (by decide)).trans su_at) (fun _ => nI (rnR r)) (su_at) (σ 23) (((su_nn (by decide)).trans (su_nn (by decide)))) (σ 24) (((su_nn (by decide)).trans (su_nn (by decide)))) (σ 25) (((su_nn (by decide)).trans (su_nn (by decide)))) (rnR r) x rfl (rnR_le hr0)) mv_X6_paysPlain ml_RX6_311 rfl ⟨Nat.le_of_ble_eq_true rfl, Nat.le_of_ble_eq_true rfl⟩ ⟨rfl, rfl⟩ (q0 := 0) rfl rfl rfl rfl rfl rfl (Nat.le_of_ble_eq_true rfl) dX6_paysBy_24 ?_
    refine r_blk (blk' := wM cs h (su (su σ 21 (trB (rnB (σ 21) r (20 : Int32)) (rnR r) (paPC (σ 23 0)))) 22 (fun _ => nI (trR (rnR r) (paPC (σ 23 0)))))) (congrArg (wM cs h) (by rw [su_cm (k := 22) (j := 21) (by decide), su_su (k := 21), su_su (k := 22)])) ?_
    refine r_bipush (pc := 27) C 6 dX6_paysBy_27 (by decide) ?_
    refine r_isub (pc := 29) C dX6_paysBy_29 ?_
    exact r_iret (pc := 30) C hr hlk dX6_paysBy_30 rfl (by first | rfl | (simp [paV, paC, trB, trR, trB_app, trR_app, *]; done) | simp_all [paV, paC, trB, trR, trB_app, trR_app]) (by rw [show (trB (σ 21) r (paC (σ 23 0)) : Nat → Int32) = trB (rnB (σ 21) r (20 : Int32)) (rnR r) (paPC (σ 23 0)) from (by first | rfl | (simp [paV, paC, trB, trR, trB_app, trR_app, *]; done) | simp_all [paV, paC, trB, trR, trB_app, trR_app]), show (fun _ => nI (trR r (paC (σ 23 0))) : Nat → Int32) = fun _ => nI (trR (rnR r) (paPC (σ 23 0))) from (by first | rfl | (simp [paV, paC, trB, trR, trB_app, trR_app, *]; done) | simp_all [paV, paC, trB, trR, trB_app, trR_app])] <;> rfl)
  · skip
    refine r_aload_n (pc := 8) C 0 dX6_paysBy_8 rfl rfl ?_
    refine mg_actKind (pc := 9) C fl_RX6_299 dX6_paysBy_9 (σ 23 0) rfl ?_
    refine r_iconst (pc := 12) C 3 dX6_paysBy_12 (by decide) ?_
    refine r_icmp_ne (pc := 13) C 31 dX6_paysBy_13 (by decide) (fun c_2 => ?_) (fun c_2 => ?_)
    · skip
      refine r_aload_n (pc := 31) C 0 dX6_paysBy_31 rfl rfl ?_
      refine mg_actKind (pc := 32) C fl_RX6_299 dX6_paysBy_32 (σ 23 0) rfl ?_
      refine r_iconst (pc := 35) C 4 dX6_paysBy_35 (by decide) ?_
      refine r_icmp_ne (pc := 36) C 62 dX6_paysBy_36 (by decide) (fun c_3 => ?_) (fun c_3 => ?_)
      · skip
        refine r_aload_n (pc := 62) C 0 dX6_paysBy_62 rfl rfl ?_
        refine r_iload_n (pc := 63) C 1 dX6_paysBy_63 rfl rfl ?_
        refine rc_Vi (pc := 64) C (t_X6_paysPlain' l ad D cs h σ pre post (σ 21) (rfl) (σ 22) (rfl) (σ 23) (rfl) (σ 24) (rfl) (σ 25) (rfl) r x hR hr0) mv_X6_paysPlain ml_RX6_311 rfl ⟨Nat.le_of_ble_eq_true rfl, Nat.le_of_ble_eq_true rfl⟩ ⟨rfl, rfl⟩ (q0 := 0) rfl rfl rfl rfl rfl rfl (Nat.le_of_ble_eq_true rfl) dX6_paysBy_64 ?_
        exact r_iret (pc := 67) C hr hlk dX6_paysBy_67 rfl (by first | rfl | (simp [paV, paC, trB, trR, trB_app, trR_app, *]; done) | simp_all [paV, paC, trB, trR, trB_app, trR_app]) (by rw [show (trB (σ 21) r (paC (σ 23 0)) : Nat → Int32) = trB (σ 21) r (paPC (σ 23 0)) from (by first | rfl | (simp [paV, paC, trB, trR, trB_app, trR_app, *]; done) | simp_all [paV, paC, trB, trR, trB_app, trR_app]), show (fun _ => nI (trR r (paC (σ 23 0))) : Nat → Int32) = fun _ => nI (trR r (paPC (σ 23 0))) from (by first | rfl | (simp [paV, paC, trB, trR, trB_app, trR_app, *]; done) | simp_all [paV, paC, trB, trR, trB_app, trR_app])] <;> rfl)
      · skip
        refine r_aload_n (pc := 39) C 0 dX6_paysBy_39 rfl rfl ?_
        refine r_bipush (pc := 40) C 41 dX6_paysBy_40 (by decide) ?_
        refine rc_Vv (pc := 42) C (t_X6_runs' l ad D cs h σ pre post (σ 21) (rfl) (σ 22) (rfl) r (41 : Int32) hR hr0) mv_X6_runs ml_RX6_290 rfl ⟨Nat.le_of_ble_eq_true rfl, Nat.le_of_ble_eq_true rfl⟩ ⟨rfl, rfl⟩ (q0 := 0) rfl rfl rfl rfl rfl rfl (Nat.le_of_ble_eq_true rfl) dX6_paysBy_42 ?_
        refine r_aload_n (pc := 45) C 0 dX6_paysBy_45 rfl rfl ?_
        refine r_iload_n (pc := 46) C 1 dX6_paysBy_46 rfl rfl ?_
        refine rc_Vi (pc := 47) C (t_X6_paysPlain' l ad D cs h (su (su σ 21 (rnB (σ 21) r (41 : Int32))) 22 (fun _ => nI (rnR r))) pre post (rnB (σ 21) r (41 : Int32)) ((su_nn (by decide)).trans su_at) (fun _ => nI (rnR r)) (su_at) (σ 23) (((su_nn (by decide)).trans (su_nn (by decide)))) (σ 24) (((su_nn (by decide)).trans (su_nn (by decide)))) (σ 25) (((su_nn (by decide)).trans (su_nn (by decide)))) (rnR r) x rfl (rnR_le hr0)) mv_X6_paysPlain ml_RX6_311 rfl ⟨Nat.le_of_ble_eq_true rfl, Nat.le_of_ble_eq_true rfl⟩ ⟨rfl, rfl⟩ (q0 := 0) rfl rfl rfl rfl rfl rfl (Nat.le_of_ble_eq_true rfl) dX6_paysBy_47 ?_
        refine r_blk (blk' := wM cs h (su (su σ 21 (trB (rnB (σ 21) r (41 : Int32)) (rnR r) (paPC (σ 23 0)))) 22 (fun _ => nI (trR (rnR r) (paPC (σ 23 0)))))) (congrArg (wM cs h) (by rw [su_cm (k := 22) (j := 21) (by decide), su_su (k := 21), su_su (k := 22)])) ?_
        refine r_istore_n (pc := 50) C [(2, .int (paPV (σ 23 0) (σ 24 0) (σ 25 0) x)), (0, .ref (h 0)), (1, .int x)] dX6_paysBy_50 rfl (by decide) rfl ?_
        refine r_iload_n (pc := 51) C 0 dX6_paysBy_51 rfl rfl ?_
        refine r_aload_n (pc := 52) C 1 dX6_paysBy_52 rfl rfl ?_
        refine r_aload_n (pc := 53) C 1 dX6_paysBy_53 rfl rfl ?_
        refine mg_actA (pc := 54) C fl_RX6_305 dX6_paysBy_54 (σ 25 0) (congrFun (((su_nn (by decide)).trans (su_nn (by decide)))) 0) ?_
        refine rc_Vi (pc := 57) C (t_X6_seesBy' l ad D cs h (su (su σ 21 (trB (rnB (σ 21) r (41 : Int32)) (rnR r) (paPC (σ 23 0)))) 22 (fun _ => nI (trR (rnR r) (paPC (σ 23 0))))) pre post (trB (rnB (σ 21) r (41 : Int32)) (rnR r) (paPC (σ 23 0))) ((su_nn (by decide)).trans su_at) (fun _ => nI (trR (rnR r) (paPC (σ 23 0)))) (su_at) (σ 23) (((su_nn (by decide)).trans (su_nn (by decide)))) (σ 24) (((su_nn (by decide)).trans (su_nn (by decide)))) (σ 25) (((su_nn (by decide)).trans (su_nn (by decide)))) (trR (rnR r) (paPC (σ 23 0))) (σ 25 0) rfl (trR_le (rnR_le hr0) _)) mv_X6_seesBy ml_RX6_308 rfl ⟨Nat.le_of_ble_eq_true rfl, Nat.le_of_ble_eq_true rfl⟩ ⟨rfl, rfl⟩ (q0 := 0) rfl rfl rfl rfl rfl rfl (Nat.le_of_ble_eq_true rfl) dX6_paysBy_57 ?_
        refine r_blk (blk' := wM cs h (su (su σ 21 (trB (trB (rnB (σ 21) r (41 : Int32)) (rnR r) (paPC (σ 23 0))) (trR (rnR r) (paPC (σ 23 0))) (seC (σ 23 0)))) 22 (fun _ => nI (trR (trR (rnR r) (paPC (σ 23 0))) (seC (σ 23 0)))))) (congrArg (wM cs h) (by rw [su_cm (k := 22) (j := 21) (by decide), su_su (k := 21), su_su (k := 22)])) ?_
        refine r_ixor (pc := 60) C dX6_paysBy_60 ?_
        exact r_iret (pc := 61) C hr hlk dX6_paysBy_61 rfl (by first | rfl | (simp [paV, paC, trB, trR, trB_app, trR_app, *]; done) | simp_all [paV, paC, trB, trR, trB_app, trR_app]) (by rw [show (trB (σ 21) r (paC (σ 23 0)) : Nat → Int32) = trB (trB (rnB (σ 21) r (41 : Int32)) (rnR r) (paPC (σ 23 0))) (trR (rnR r) (paPC (σ 23 0))) (seC (σ 23 0)) from (by first | rfl | (simp [paV, paC, trB, trR, trB_app, trR_app, *]; done) | simp_all [paV, paC, trB, trR, trB_app, trR_app]), show (fun _ => nI (trR r (paC (σ 23 0))) : Nat → Int32) = fun _ => nI (trR (trR (rnR r) (paPC (σ 23 0))) (seC (σ 23 0))) from (by first | rfl | (simp [paV, paC, trB, trR, trB_app, trR_app, *]; done) | simp_all [paV, paC, trB, trR, trB_app, trR_app])] <;> rfl)
    · skip
      refine r_aload_n (pc := 16) C 0 dX6_paysBy_16 rfl rfl ?_
      refine r_bipush (pc := 17) C 20 dX6_paysBy_17 (by decide) ?_
      refine rc_Vv (pc := 19) C (t_X6_runs' l ad D cs h σ pre post (σ 21) (rfl) (σ 22) (rfl) r (20 : Int32) hR hr0) mv_X6_runs ml_RX6_290 rfl ⟨Nat.le_of_ble_eq_true rfl, Nat.le_of_ble_eq_true rfl⟩ ⟨rfl, rfl⟩ (q0 := 0) rfl rfl rfl rfl rfl rfl (Nat.le_of_ble_eq_true rfl) dX6_paysBy_19 ?_
      refine r_aload_n (pc := 22) C 0 dX6_paysBy_22 rfl rfl ?_
      refine r_iload_n (pc := 23) C 1 dX6_paysBy_23 rfl rfl ?_
      refine rc_Vi (pc := 24) C (t_X6_paysPlain' l ad D cs h (su (su σ 21 (rnB (σ 21) r (20 : Int32))) 22 (fun _ => nI (rnR r))) pre post (rnB (σ 21) r (20 : Int32)) ((su_nn (by decide)).trans su_at) (fun _ => nI (rnR r)) (su_at) (σ 23) (((su_nn (by decide)).trans (su_nn (by decide)))) (σ 24) (((su_nn (by decide)).trans (su_nn (by decide)))) (σ 25) (((su_nn (by decide)).trans (su_nn (by decide)))) (rnR r) x rfl (rnR_le hr0)) mv_X6_paysPlain ml_RX6_311 rfl ⟨Nat.le_of_ble_eq_true rfl, Nat.le_of_ble_eq_true rfl⟩ ⟨rfl, rfl⟩ (q0 := 0) rfl rfl rfl rfl rfl rfl (Nat.le_of_ble_eq_true rfl) dX6_paysBy_24 ?_
      refine r_blk (blk' := wM cs h (su (su σ 21 (trB (rnB (σ 21) r (20 : Int32)) (rnR r) (paPC (σ 23 0)))) 22 (fun _ => nI (trR (rnR r) (paPC (σ 23 0)))))) (congrArg (wM cs h) (by rw [su_cm (k := 22) (j := 21) (by decide), su_su (k := 21), su_su (k := 22)])) ?_
      refine r_bipush (pc := 27) C 6 dX6_paysBy_27 (by decide) ?_
      refine r_isub (pc := 29) C dX6_paysBy_29 ?_
      exact r_iret (pc := 30) C hr hlk dX6_paysBy_30 rfl (by first | rfl | (simp [paV, paC, trB, trR, trB_app, trR_app, *]; done) | simp_all [paV, paC, trB, trR, trB_app, trR_app]) (by rw [show (trB (σ 21) r (paC (σ 23 0)) : Nat → Int32) = trB (rnB (σ 21) r (20 : Int32)) (rnR r) (paPC (σ 23 0)) from (by first | rfl | (simp [paV, paC, trB, trR, trB_app, trR_app, *]; done) | simp_all [paV, paC, trB, trR, trB_app, trR_app]), show (fun _ => nI (trR r (paC (σ 23 0))) : Nat → Int32) = fun _ => nI (trR (rnR r) (paPC (σ 23 0))) from (by first | rfl | (simp [paV, paC, trB, trR, trB_app, trR_app, *]; done) | simp_all [paV, paC, trB, trR, trB_app, trR_app])] <;> rfl)
theorem t_X6_paysBy' (l : Launch) (ad : Nat → Nat) (D : va_G) (cs : Nat → ClassId) (h : Nat → Nat) (σ : Nat → Nat → Int32) (pre post : va_W) (f21_ : Nat → Int32) (e21_ : σ 21 = f21_) (f22_ : Nat → Int32) (e22_ : σ 22 = f22_) (f23_ : Nat → Int32) (e23_ : σ 23 = f23_) (f24_ : Nat → Int32) (e24_ : σ 24 = f24_) (f25_ : Nat → Int32) (e25_ : σ 25 = f25_) (r : Nat) (x : Int32) (hR : f22_ 0 = nI r) (hr0 : r ≤ 30) : CTi l yX6_paysBy cX6_paysBy 3 .int ({ frames := 5, cells := 0, slots := 0, locals := 105 }) ad D (tysW cs) (pre ++ (wM cs h σ ++ post)) [.ref (h 0), .int x] (paV (f23_ 0) (f24_ 0) (f25_ 0) x) (pre ++ (wM cs h (su (su σ 21 (trB (f21_) r (paC (f23_ 0)))) 22 (fun _ => nI (trR r (paC (f23_ 0))))) ++ post)) := by
  subst e21_; subst e22_; subst e23_; subst e24_; subst e25_
  exact t_X6_paysBy l ad D cs h σ pre post r x hR hr0
theorem dX6_partsPlain_0 : decode cX6_partsPlain 0 = .ok (.aload_n 0, 1) := by decide +kernel
theorem dX6_partsPlain_1 : decode cX6_partsPlain 1 = .ok (.bipush 12, 2) := by decide +kernel
theorem dX6_partsPlain_3 : decode cX6_partsPlain 3 = .ok (.invokevirtual 290, 3) := by decide +kernel
theorem dX6_partsPlain_6 : decode cX6_partsPlain 6 = .ok (.aload_n 0, 1) := by decide +kernel
theorem dX6_partsPlain_7 : decode cX6_partsPlain 7 = .ok (.aload_n 0, 1) := by decide +kernel
theorem dX6_partsPlain_8 : decode cX6_partsPlain 8 = .ok (.getfield 314, 3) := by decide +kernel
theorem dX6_partsPlain_11 : decode cX6_partsPlain 11 = .ok (.ifCond .ne 14, 3) := by decide +kernel
theorem dX6_partsPlain_14 : decode cX6_partsPlain 14 = .ok (.aload_n 0, 1) := by decide +kernel
theorem dX6_partsPlain_15 : decode cX6_partsPlain 15 = .ok (.getfield 293, 3) := by decide +kernel
theorem dX6_partsPlain_18 : decode cX6_partsPlain 18 = .ok (.aload_n 0, 1) := by decide +kernel
theorem dX6_partsPlain_19 : decode cX6_partsPlain 19 = .ok (.getfield 305, 3) := by decide +kernel
theorem dX6_partsPlain_22 : decode cX6_partsPlain 22 = .ok (.if_icmp .ne 7, 3) := by decide +kernel
theorem dX6_partsPlain_25 : decode cX6_partsPlain 25 = .ok (.iconst 1, 1) := by decide +kernel
theorem dX6_partsPlain_26 : decode cX6_partsPlain 26 = .ok (.goto 4, 3) := by decide +kernel
theorem dX6_partsPlain_29 : decode cX6_partsPlain 29 = .ok (.iconst 0, 1) := by decide +kernel
theorem dX6_partsPlain_30 : decode cX6_partsPlain 30 = .ok (.putfield 314, 3) := by decide +kernel
theorem dX6_partsPlain_33 : decode cX6_partsPlain 33 = .ok (.aload_n 0, 1) := by decide +kernel
theorem dX6_partsPlain_34 : decode cX6_partsPlain 34 = .ok (.getfield 314, 3) := by decide +kernel
theorem dX6_partsPlain_37 : decode cX6_partsPlain 37 = .ok (.ifCond .eq 7, 3) := by decide +kernel
theorem dX6_partsPlain_40 : decode cX6_partsPlain 40 = .ok (.iconst 0, 1) := by decide +kernel
theorem dX6_partsPlain_41 : decode cX6_partsPlain 41 = .ok (.goto 14, 3) := by decide +kernel
theorem dX6_partsPlain_44 : decode cX6_partsPlain 44 = .ok (.iload_n 1, 1) := by decide +kernel
theorem dX6_partsPlain_45 : decode cX6_partsPlain 45 = .ok (.aload_n 0, 1) := by decide +kernel
theorem dX6_partsPlain_46 : decode cX6_partsPlain 46 = .ok (.getfield 305, 3) := by decide +kernel
theorem dX6_partsPlain_49 : decode cX6_partsPlain 49 = .ok (.aload_n 0, 1) := by decide +kernel
theorem dX6_partsPlain_50 : decode cX6_partsPlain 50 = .ok (.getfield 293, 3) := by decide +kernel
theorem dX6_partsPlain_53 : decode cX6_partsPlain 53 = .ok (.isub, 1) := by decide +kernel
theorem dX6_partsPlain_54 : decode cX6_partsPlain 54 = .ok (.idiv, 1) := by decide +kernel
theorem dX6_partsPlain_55 : decode cX6_partsPlain 55 = .ok (.ireturn, 1) := by decide +kernel
set_option maxHeartbeats 400000 in
set_option maxRecDepth 20000 in
theorem t_X6_partsPlain (l : Launch) (ad : Nat → Nat) (D : va_G) (cs : Nat → ClassId) (h : Nat → Nat) (σ : Nat → Nat → Int32) (pre post : va_W) (r : Nat) (x : Int32) (hR : σ 22 0 = nI r) (hr0 : r ≤ 30) (hP : σ 26 0 = nI 0) : CTi l yX6_partsPlain cX6_partsPlain 2 .int ({ frames := 1, cells := 0, slots := 0, locals := 21 }) ad D (tysW cs) (pre ++ (wM cs h σ ++ post)) [.ref (h 0), .int x] (ptPV (σ 24 0) (σ 25 0) x) (pre ++ (wM cs h (su (su (su σ 21 (rnB (σ 21) r 12)) 22 (fun _ => nI (rnR r))) 26 (fun _ => ptD (σ 24 0) (σ 25 0))) ++ post)) := by
  refine CTi.of (lv0 := [(0, .ref (h 0)), (1, .int x)]) (by decide) rfl (Nat.le_of_ble_eq_true rfl) (fun p e s m args below meth c A C hr hlk => ?_)
  have C : Cx p s m args c cX6_partsPlain 2 RX6 ad D (tysW cs) A := C
  refine r_aload_n (pc := 0) C 0 dX6_partsPlain_0 rfl rfl ?_
  refine r_bipush (pc := 1) C 12 dX6_partsPlain_1 (by decide) ?_
  refine rc_Vv (pc := 3) C (t_X6_runs' l ad D cs h σ pre post (σ 21) (rfl) (σ 22) (rfl) r (12 : Int32) hR hr0) mv_X6_runs ml_RX6_290 rfl ⟨Nat.le_of_ble_eq_true rfl, Nat.le_of_ble_eq_true rfl⟩ ⟨rfl, rfl⟩ (q0 := 0) rfl rfl rfl rfl rfl rfl (Nat.le_of_ble_eq_true rfl) dX6_partsPlain_3 ?_
  refine r_aload_n (pc := 6) C 0 dX6_partsPlain_6 rfl rfl ?_
  refine r_aload_n (pc := 7) C 0 dX6_partsPlain_7 rfl rfl ?_
  refine mg_isParted (pc := 8) C fl_RX6_314 dX6_partsPlain_8 (σ 26 0) (congrFun (((su_nn (by decide)).trans (su_nn (by decide)))) 0) ?_
  refine r_eqi (y := 0) (hP) ?_
  refine r_if_ne (pc := 11) C 25 dX6_partsPlain_11 (by decide) (fun c_1 => ?_) (fun c_1 => ?_)
  · skip
    revert c_1; intro c_1
    exact absurd c_1 (by decide)
  · skip
    revert c_1; intro c_1
    refine r_aload_n (pc := 14) C 0 dX6_partsPlain_14 rfl rfl ?_
    refine mg_actN (pc := 15) C fl_RX6_293 dX6_partsPlain_15 (σ 24 0) (congrFun (((su_nn (by decide)).trans (su_nn (by decide)))) 0) ?_
    refine r_aload_n (pc := 18) C 0 dX6_partsPlain_18 rfl rfl ?_
    refine mg_actA (pc := 19) C fl_RX6_305 dX6_partsPlain_19 (σ 25 0) (congrFun (((su_nn (by decide)).trans (su_nn (by decide)))) 0) ?_
    refine r_icmp_ne (pc := 22) C 29 dX6_partsPlain_22 (by decide) (fun c_2 => ?_) (fun c_2 => ?_)
    · skip
      refine r_iconst (pc := 29) C 0 dX6_partsPlain_29 (by decide) ?_
      refine mp_isParted (pc := 30) C fl_RX6_314 dX6_partsPlain_30 rfl rfl ?_
      refine r_aload_n (pc := 33) C 0 dX6_partsPlain_33 rfl rfl ?_
      refine mg_isParted (pc := 34) C fl_RX6_314 dX6_partsPlain_34 0 (congrFun (su_at) 0) ?_
      refine r_if_eq (pc := 37) C 44 dX6_partsPlain_37 (by decide) (fun c_3 => ?_) (fun c_3 => ?_)
      · skip
        revert c_3; intro c_3
        refine r_iload_n (pc := 44) C 1 dX6_partsPlain_44 rfl rfl ?_
        refine r_aload_n (pc := 45) C 0 dX6_partsPlain_45 rfl rfl ?_
        refine mg_actA (pc := 46) C fl_RX6_305 dX6_partsPlain_46 (σ 25 0) (congrFun ((((su_nn (by decide)).trans (su_nn (by decide))).trans (su_nn (by decide)))) 0) ?_
        refine r_aload_n (pc := 49) C 0 dX6_partsPlain_49 rfl rfl ?_
        refine mg_actN (pc := 50) C fl_RX6_293 dX6_partsPlain_50 (σ 24 0) (congrFun ((((su_nn (by decide)).trans (su_nn (by decide))).trans (su_nn (by decide)))) 0) ?_
        refine r_isub (pc := 53) C dX6_partsPlain_53 ?_
        refine r_idiv (pc := 54) C dX6_partsPlain_54 (sub_ne ‹_›) ?_
        exact r_iret (pc := 55) C hr hlk dX6_partsPlain_55 rfl (by first | rfl | (simp [ptPV, ptD, *]; done) | simp_all [ptPV, ptD]) (by rw [show (rnB (σ 21) r 12 : Nat → Int32) = rnB (σ 21) r (12 : Int32) from (by first | rfl | (simp [ptPV, ptD, *]; done) | simp_all [ptPV, ptD]), show (fun _ => ptD (σ 24 0) (σ 25 0) : Nat → Int32) = fun _ => 0 from (by first | rfl | (simp [ptPV, ptD, *]; done) | simp_all [ptPV, ptD])] <;> rfl)
      · skip
        revert c_3; intro c_3
        exact absurd c_3 (by decide)
    · skip
      refine r_iconst (pc := 25) C 1 dX6_partsPlain_25 (by decide) ?_
      refine r_goto (pc := 26) C 30 dX6_partsPlain_26 (by decide) ?_
      refine mp_isParted (pc := 30) C fl_RX6_314 dX6_partsPlain_30 rfl rfl ?_
      refine r_aload_n (pc := 33) C 0 dX6_partsPlain_33 rfl rfl ?_
      refine mg_isParted (pc := 34) C fl_RX6_314 dX6_partsPlain_34 1 (congrFun (su_at) 0) ?_
      refine r_if_eq (pc := 37) C 44 dX6_partsPlain_37 (by decide) (fun c_4 => ?_) (fun c_4 => ?_)
      · skip
        revert c_4; intro c_4
        exact absurd c_4 (by decide)
      · skip
        revert c_4; intro c_4
        refine r_iconst (pc := 40) C 0 dX6_partsPlain_40 (by decide) ?_
        refine r_goto (pc := 41) C 55 dX6_partsPlain_41 (by decide) ?_
        exact r_iret (pc := 55) C hr hlk dX6_partsPlain_55 rfl (by first | rfl | (simp [ptPV, ptD, *]; done) | simp_all [ptPV, ptD]) (by rw [show (rnB (σ 21) r 12 : Nat → Int32) = rnB (σ 21) r (12 : Int32) from (by first | rfl | (simp [ptPV, ptD, *]; done) | simp_all [ptPV, ptD]), show (fun _ => ptD (σ 24 0) (σ 25 0) : Nat → Int32) = fun _ => 1 from (by first | rfl | (simp [ptPV, ptD, *]; done) | simp_all [ptPV, ptD])] <;> rfl)
theorem t_X6_partsPlain' (l : Launch) (ad : Nat → Nat) (D : va_G) (cs : Nat → ClassId) (h : Nat → Nat) (σ : Nat → Nat → Int32) (pre post : va_W) (f21_ : Nat → Int32) (e21_ : σ 21 = f21_) (f22_ : Nat → Int32) (e22_ : σ 22 = f22_) (f24_ : Nat → Int32) (e24_ : σ 24 = f24_) (f25_ : Nat → Int32) (e25_ : σ 25 = f25_) (f26_ : Nat → Int32) (e26_ : σ 26 = f26_) (r : Nat) (x : Int32) (hR : f22_ 0 = nI r) (hr0 : r ≤ 30) (hP : f26_ 0 = nI 0) : CTi l yX6_partsPlain cX6_partsPlain 2 .int ({ frames := 1, cells := 0, slots := 0, locals := 21 }) ad D (tysW cs) (pre ++ (wM cs h σ ++ post)) [.ref (h 0), .int x] (ptPV (f24_ 0) (f25_ 0) x) (pre ++ (wM cs h (su (su (su σ 21 (rnB (f21_) r 12)) 22 (fun _ => nI (rnR r))) 26 (fun _ => ptD (f24_ 0) (f25_ 0))) ++ post)) := by
  subst e21_; subst e22_; subst e24_; subst e25_; subst e26_
  exact t_X6_partsPlain l ad D cs h σ pre post r x hR hr0 hP
theorem dX6_parts_0 : decode cX6_parts 0 = .ok (.aload_n 0, 1) := by decide +kernel
theorem dX6_parts_1 : decode cX6_parts 1 = .ok (.getfield 299, 3) := by decide +kernel
theorem dX6_parts_4 : decode cX6_parts 4 = .ok (.iconst 3, 1) := by decide +kernel
theorem dX6_parts_5 : decode cX6_parts 5 = .ok (.if_icmp .ne 19, 3) := by decide +kernel
theorem dX6_parts_8 : decode cX6_parts 8 = .ok (.aload_n 0, 1) := by decide +kernel
theorem dX6_parts_9 : decode cX6_parts 9 = .ok (.bipush 50, 2) := by decide +kernel
theorem dX6_parts_11 : decode cX6_parts 11 = .ok (.invokevirtual 290, 3) := by decide +kernel
theorem dX6_parts_14 : decode cX6_parts 14 = .ok (.aload_n 0, 1) := by decide +kernel
theorem dX6_parts_15 : decode cX6_parts 15 = .ok (.iload_n 1, 1) := by decide +kernel
theorem dX6_parts_16 : decode cX6_parts 16 = .ok (.iconst 1, 1) := by decide +kernel
theorem dX6_parts_17 : decode cX6_parts 17 = .ok (.isub, 1) := by decide +kernel
theorem dX6_parts_18 : decode cX6_parts 18 = .ok (.invokevirtual 317, 3) := by decide +kernel
theorem dX6_parts_21 : decode cX6_parts 21 = .ok (.iconst 2, 1) := by decide +kernel
theorem dX6_parts_22 : decode cX6_parts 22 = .ok (.imul, 1) := by decide +kernel
theorem dX6_parts_23 : decode cX6_parts 23 = .ok (.ireturn, 1) := by decide +kernel
theorem dX6_parts_24 : decode cX6_parts 24 = .ok (.aload_n 0, 1) := by decide +kernel
theorem dX6_parts_25 : decode cX6_parts 25 = .ok (.getfield 299, 3) := by decide +kernel
theorem dX6_parts_28 : decode cX6_parts 28 = .ok (.iconst 5, 1) := by decide +kernel
theorem dX6_parts_29 : decode cX6_parts 29 = .ok (.if_icmp .ne 37, 3) := by decide +kernel
theorem dX6_parts_32 : decode cX6_parts 32 = .ok (.aload_n 0, 1) := by decide +kernel
theorem dX6_parts_33 : decode cX6_parts 33 = .ok (.bipush 61, 2) := by decide +kernel
theorem dX6_parts_35 : decode cX6_parts 35 = .ok (.invokevirtual 290, 3) := by decide +kernel
theorem dX6_parts_38 : decode cX6_parts 38 = .ok (.aload_n 0, 1) := by decide +kernel
theorem dX6_parts_39 : decode cX6_parts 39 = .ok (.iload_n 1, 1) := by decide +kernel
theorem dX6_parts_40 : decode cX6_parts 40 = .ok (.invokevirtual 317, 3) := by decide +kernel
theorem dX6_parts_43 : decode cX6_parts 43 = .ok (.istore_n 2, 1) := by decide +kernel
theorem dX6_parts_44 : decode cX6_parts 44 = .ok (.aload_n 0, 1) := by decide +kernel
theorem dX6_parts_45 : decode cX6_parts 45 = .ok (.getfield 314, 3) := by decide +kernel
theorem dX6_parts_48 : decode cX6_parts 48 = .ok (.ifCond .eq 7, 3) := by decide +kernel
theorem dX6_parts_51 : decode cX6_parts 51 = .ok (.iconst 0, 1) := by decide +kernel
theorem dX6_parts_52 : decode cX6_parts 52 = .ok (.goto 13, 3) := by decide +kernel
theorem dX6_parts_55 : decode cX6_parts 55 = .ok (.iload_n 2, 1) := by decide +kernel
theorem dX6_parts_56 : decode cX6_parts 56 = .ok (.aload_n 0, 1) := by decide +kernel
theorem dX6_parts_57 : decode cX6_parts 57 = .ok (.aload_n 0, 1) := by decide +kernel
theorem dX6_parts_58 : decode cX6_parts 58 = .ok (.getfield 293, 3) := by decide +kernel
theorem dX6_parts_61 : decode cX6_parts 61 = .ok (.invokevirtual 308, 3) := by decide +kernel
theorem dX6_parts_64 : decode cX6_parts 64 = .ok (.isub, 1) := by decide +kernel
theorem dX6_parts_65 : decode cX6_parts 65 = .ok (.ireturn, 1) := by decide +kernel
theorem dX6_parts_66 : decode cX6_parts 66 = .ok (.aload_n 0, 1) := by decide +kernel
theorem dX6_parts_67 : decode cX6_parts 67 = .ok (.iload_n 1, 1) := by decide +kernel
theorem dX6_parts_68 : decode cX6_parts 68 = .ok (.invokevirtual 317, 3) := by decide +kernel
theorem dX6_parts_71 : decode cX6_parts 71 = .ok (.ireturn, 1) := by decide +kernel
set_option maxHeartbeats 400000 in
set_option maxRecDepth 20000 in
theorem t_X6_parts (l : Launch) (ad : Nat → Nat) (D : va_G) (cs : Nat → ClassId) (h : Nat → Nat) (σ : Nat → Nat → Int32) (pre post : va_W) (r : Nat) (x : Int32) (hR : σ 22 0 = nI r) (hr0 : r ≤ 30) (hP : σ 26 0 = nI 0) : CTi l yX6_parts cX6_parts 3 .int ({ frames := 4, cells := 0, slots := 0, locals := 84 }) ad D (tysW cs) (pre ++ (wM cs h σ ++ post)) [.ref (h 0), .int x] (ptV (σ 23 0) (σ 24 0) (σ 25 0) x) (pre ++ (wM cs h (su (su (su σ 21 (trB (σ 21) r (ptC (σ 23 0) (σ 24 0) (σ 25 0)))) 22 (fun _ => nI (trR r (ptC (σ 23 0) (σ 24 0) (σ 25 0))))) 26 (fun _ => ptD (σ 24 0) (σ 25 0))) ++ post)) := by
  refine CTi.of (lv0 := [(0, .ref (h 0)), (1, .int x)]) (by decide) rfl (Nat.le_of_ble_eq_true rfl) (fun p e s m args below meth c A C hr hlk => ?_)
  have C : Cx p s m args c cX6_parts 3 RX6 ad D (tysW cs) A := C
  refine r_aload_n (pc := 0) C 0 dX6_parts_0 rfl rfl ?_
  refine mg_actKind (pc := 1) C fl_RX6_299 dX6_parts_1 (σ 23 0) rfl ?_
  refine r_iconst (pc := 4) C 3 dX6_parts_4 (by decide) ?_
  refine r_icmp_ne (pc := 5) C 24 dX6_parts_5 (by decide) (fun c_1 => ?_) (fun c_1 => ?_)
  · skip
    refine r_aload_n (pc := 24) C 0 dX6_parts_24 rfl rfl ?_
    refine mg_actKind (pc := 25) C fl_RX6_299 dX6_parts_25 (σ 23 0) rfl ?_
    refine r_iconst (pc := 28) C 5 dX6_parts_28 (by decide) ?_
    refine r_icmp_ne (pc := 29) C 66 dX6_parts_29 (by decide) (fun c_2 => ?_) (fun c_2 => ?_)
    · skip
      refine r_aload_n (pc := 66) C 0 dX6_parts_66 rfl rfl ?_
      refine r_iload_n (pc := 67) C 1 dX6_parts_67 rfl rfl ?_
      refine rc_Vi (pc := 68) C (t_X6_partsPlain' l ad D cs h σ pre post (σ 21) (rfl) (σ 22) (rfl) (σ 24) (rfl) (σ 25) (rfl) (σ 26) (rfl) r x hR hr0 hP) mv_X6_partsPlain ml_RX6_317 rfl ⟨Nat.le_of_ble_eq_true rfl, Nat.le_of_ble_eq_true rfl⟩ ⟨rfl, rfl⟩ (q0 := 0) rfl rfl rfl rfl rfl rfl (Nat.le_of_ble_eq_true rfl) dX6_parts_68 ?_
      exact r_iret (pc := 71) C hr hlk dX6_parts_71 rfl (by first | rfl | (simp [ptV, ptC, trB, trR, *]; done) | simp_all [ptV, ptC, trB, trR]) (by rw [show (trB (σ 21) r (ptC (σ 23 0) (σ 24 0) (σ 25 0)) : Nat → Int32) = rnB (σ 21) r 12 from (by first | rfl | (simp [ptV, ptC, trB, trR, *]; done) | simp_all [ptV, ptC, trB, trR]), show (fun _ => nI (trR r (ptC (σ 23 0) (σ 24 0) (σ 25 0))) : Nat → Int32) = fun _ => nI (rnR r) from (by first | rfl | (simp [ptV, ptC, trB, trR, *]; done) | simp_all [ptV, ptC, trB, trR])] <;> rfl)
    · skip
      refine r_aload_n (pc := 32) C 0 dX6_parts_32 rfl rfl ?_
      refine r_bipush (pc := 33) C 61 dX6_parts_33 (by decide) ?_
      refine rc_Vv (pc := 35) C (t_X6_runs' l ad D cs h σ pre post (σ 21) (rfl) (σ 22) (rfl) r (61 : Int32) hR hr0) mv_X6_runs ml_RX6_290 rfl ⟨Nat.le_of_ble_eq_true rfl, Nat.le_of_ble_eq_true rfl⟩ ⟨rfl, rfl⟩ (q0 := 0) rfl rfl rfl rfl rfl rfl (Nat.le_of_ble_eq_true rfl) dX6_parts_35 ?_
      refine r_aload_n (pc := 38) C 0 dX6_parts_38 rfl rfl ?_
      refine r_iload_n (pc := 39) C 1 dX6_parts_39 rfl rfl ?_
      refine rc_Vi (pc := 40) C (t_X6_partsPlain' l ad D cs h (su (su σ 21 (rnB (σ 21) r (61 : Int32))) 22 (fun _ => nI (rnR r))) pre post (rnB (σ 21) r (61 : Int32)) ((su_nn (by decide)).trans su_at) (fun _ => nI (rnR r)) (su_at) (σ 24) (((su_nn (by decide)).trans (su_nn (by decide)))) (σ 25) (((su_nn (by decide)).trans (su_nn (by decide)))) (σ 26) (((su_nn (by decide)).trans (su_nn (by decide)))) (rnR r) x rfl (rnR_le hr0) hP) mv_X6_partsPlain ml_RX6_317 rfl ⟨Nat.le_of_ble_eq_true rfl, Nat.le_of_ble_eq_true rfl⟩ ⟨rfl, rfl⟩ (q0 := 0) rfl rfl rfl rfl rfl rfl (Nat.le_of_ble_eq_true rfl) dX6_parts_40 ?_
      refine r_blk (blk' := wM cs h (su (su (su σ 21 (rnB (rnB (σ 21) r (61 : Int32)) (rnR r) 12)) 22 (fun _ => nI (rnR (rnR r)))) 26 (fun _ => ptD (σ 24 0) (σ 25 0)))) (congrArg (wM cs h) (by rw [su_cm (k := 22) (j := 21) (by decide), su_su (k := 21), su_su (k := 22)])) ?_
      refine r_istore_n (pc := 43) C [(2, .int (ptPV (σ 24 0) (σ 25 0) x)), (0, .ref (h 0)), (1, .int x)] dX6_parts_43 rfl (by decide) rfl ?_
      refine r_aload_n (pc := 44) C 1 dX6_parts_44 rfl rfl ?_
      refine mg_isParted (pc := 45) C fl_RX6_314 dX6_parts_45 (ptD (σ 24 0) (σ 25 0)) (congrFun (su_at) 0) ?_
      refine r_if_eq (pc := 48) C 55 dX6_parts_48 (by decide) (fun c_3 => ?_) (fun c_3 => ?_)
      · skip
        have hq := ptD_0 c_3
        refine r_iload_n (pc := 55) C 0 dX6_parts_55 rfl rfl ?_
        refine r_aload_n (pc := 56) C 1 dX6_parts_56 rfl rfl ?_
        refine r_aload_n (pc := 57) C 1 dX6_parts_57 rfl rfl ?_
        refine mg_actN (pc := 58) C fl_RX6_293 dX6_parts_58 (σ 24 0) (congrFun ((((su_nn (by decide)).trans (su_nn (by decide))).trans (su_nn (by decide)))) 0) ?_
        refine rc_Vi (pc := 61) C (t_X6_seesBy' l ad D cs h (su (su (su σ 21 (rnB (rnB (σ 21) r (61 : Int32)) (rnR r) 12)) 22 (fun _ => nI (rnR (rnR r)))) 26 (fun _ => ptD (σ 24 0) (σ 25 0))) pre post (rnB (rnB (σ 21) r (61 : Int32)) (rnR r) 12) (((su_nn (by decide)).trans (su_nn (by decide))).trans su_at) (fun _ => nI (rnR (rnR r))) ((su_nn (by decide)).trans su_at) (σ 23) ((((su_nn (by decide)).trans (su_nn (by decide))).trans (su_nn (by decide)))) (σ 24) ((((su_nn (by decide)).trans (su_nn (by decide))).trans (su_nn (by decide)))) (σ 25) ((((su_nn (by decide)).trans (su_nn (by decide))).trans (su_nn (by decide)))) (rnR (rnR r)) (σ 24 0) rfl (rnR_le (rnR_le hr0))) mv_X6_seesBy ml_RX6_308 rfl ⟨Nat.le_of_ble_eq_true rfl, Nat.le_of_ble_eq_true rfl⟩ ⟨rfl, rfl⟩ (q0 := 0) rfl rfl rfl rfl rfl rfl (Nat.le_of_ble_eq_true rfl) dX6_parts_61 ?_
        refine r_blk (blk' := wM cs h (su (su (su σ 21 (trB (rnB (rnB (σ 21) r (61 : Int32)) (rnR r) 12) (rnR (rnR r)) (seC (σ 23 0)))) 22 (fun _ => nI (trR (rnR (rnR r)) (seC (σ 23 0))))) 26 (fun _ => ptD (σ 24 0) (σ 25 0)))) (congrArg (wM cs h) (by rw [su_cm (k := 26) (j := 21) (by decide), su_cm (k := 22) (j := 21) (by decide), su_su (k := 21), su_cm (k := 26) (j := 22) (by decide), su_su (k := 22)])) ?_
        refine r_isub (pc := 64) C dX6_parts_64 ?_
        exact r_iret (pc := 65) C hr hlk dX6_parts_65 rfl (by first | rfl | (simp [ptV, ptC, trB, trR, *]; done) | simp_all [ptV, ptC, trB, trR]) (by rw [show (trB (σ 21) r (ptC (σ 23 0) (σ 24 0) (σ 25 0)) : Nat → Int32) = trB (rnB (rnB (σ 21) r (61 : Int32)) (rnR r) 12) (rnR (rnR r)) (seC (σ 23 0)) from (by first | rfl | (simp [ptV, ptC, trB, trR, *]; done) | simp_all [ptV, ptC, trB, trR]), show (fun _ => nI (trR r (ptC (σ 23 0) (σ 24 0) (σ 25 0))) : Nat → Int32) = fun _ => nI (trR (rnR (rnR r)) (seC (σ 23 0))) from (by first | rfl | (simp [ptV, ptC, trB, trR, *]; done) | simp_all [ptV, ptC, trB, trR])] <;> rfl)
      · skip
        have hq := ptD_1 c_3
        refine r_iconst (pc := 51) C 0 dX6_parts_51 (by decide) ?_
        refine r_goto (pc := 52) C 65 dX6_parts_52 (by decide) ?_
        exact r_iret (pc := 65) C hr hlk dX6_parts_65 rfl (by first | rfl | (simp [ptV, ptC, trB, trR, *]; done) | simp_all [ptV, ptC, trB, trR]) (by rw [show (trB (σ 21) r (ptC (σ 23 0) (σ 24 0) (σ 25 0)) : Nat → Int32) = rnB (rnB (σ 21) r (61 : Int32)) (rnR r) 12 from (by first | rfl | (simp [ptV, ptC, trB, trR, *]; done) | simp_all [ptV, ptC, trB, trR]), show (fun _ => nI (trR r (ptC (σ 23 0) (σ 24 0) (σ 25 0))) : Nat → Int32) = fun _ => nI (rnR (rnR r)) from (by first | rfl | (simp [ptV, ptC, trB, trR, *]; done) | simp_all [ptV, ptC, trB, trR])] <;> rfl)
  · skip
    refine r_aload_n (pc := 8) C 0 dX6_parts_8 rfl rfl ?_
    refine r_bipush (pc := 9) C 50 dX6_parts_9 (by decide) ?_
    refine rc_Vv (pc := 11) C (t_X6_runs' l ad D cs h σ pre post (σ 21) (rfl) (σ 22) (rfl) r (50 : Int32) hR hr0) mv_X6_runs ml_RX6_290 rfl ⟨Nat.le_of_ble_eq_true rfl, Nat.le_of_ble_eq_true rfl⟩ ⟨rfl, rfl⟩ (q0 := 0) rfl rfl rfl rfl rfl rfl (Nat.le_of_ble_eq_true rfl) dX6_parts_11 ?_
    refine r_aload_n (pc := 14) C 0 dX6_parts_14 rfl rfl ?_
    refine r_iload_n (pc := 15) C 1 dX6_parts_15 rfl rfl ?_
    refine r_iconst (pc := 16) C 1 dX6_parts_16 (by decide) ?_
    refine r_isub (pc := 17) C dX6_parts_17 ?_
    refine rc_Vi (pc := 18) C (t_X6_partsPlain' l ad D cs h (su (su σ 21 (rnB (σ 21) r (50 : Int32))) 22 (fun _ => nI (rnR r))) pre post (rnB (σ 21) r (50 : Int32)) ((su_nn (by decide)).trans su_at) (fun _ => nI (rnR r)) (su_at) (σ 24) (((su_nn (by decide)).trans (su_nn (by decide)))) (σ 25) (((su_nn (by decide)).trans (su_nn (by decide)))) (σ 26) (((su_nn (by decide)).trans (su_nn (by decide)))) (rnR r) (x - 1) rfl (rnR_le hr0) hP) mv_X6_partsPlain ml_RX6_317 rfl ⟨Nat.le_of_ble_eq_true rfl, Nat.le_of_ble_eq_true rfl⟩ ⟨rfl, rfl⟩ (q0 := 0) rfl rfl rfl rfl rfl rfl (Nat.le_of_ble_eq_true rfl) dX6_parts_18 ?_
    refine r_blk (blk' := wM cs h (su (su (su σ 21 (rnB (rnB (σ 21) r (50 : Int32)) (rnR r) 12)) 22 (fun _ => nI (rnR (rnR r)))) 26 (fun _ => ptD (σ 24 0) (σ 25 0)))) (congrArg (wM cs h) (by rw [su_cm (k := 22) (j := 21) (by decide), su_su (k := 21), su_su (k := 22)])) ?_
    refine r_iconst (pc := 21) C 2 dX6_parts_21 (by decide) ?_
    refine r_imul (pc := 22) C dX6_parts_22 ?_
    exact r_iret (pc := 23) C hr hlk dX6_parts_23 rfl (by first | rfl | (simp [ptV, ptC, trB, trR, *]; done) | simp_all [ptV, ptC, trB, trR]) (by rw [show (trB (σ 21) r (ptC (σ 23 0) (σ 24 0) (σ 25 0)) : Nat → Int32) = rnB (rnB (σ 21) r (50 : Int32)) (rnR r) 12 from (by first | rfl | (simp [ptV, ptC, trB, trR, *]; done) | simp_all [ptV, ptC, trB, trR]), show (fun _ => nI (trR r (ptC (σ 23 0) (σ 24 0) (σ 25 0))) : Nat → Int32) = fun _ => nI (rnR (rnR r)) from (by first | rfl | (simp [ptV, ptC, trB, trR, *]; done) | simp_all [ptV, ptC, trB, trR])] <;> rfl)
theorem t_X6_parts' (l : Launch) (ad : Nat → Nat) (D : va_G) (cs : Nat → ClassId) (h : Nat → Nat) (σ : Nat → Nat → Int32) (pre post : va_W) (f21_ : Nat → Int32) (e21_ : σ 21 = f21_) (f22_ : Nat → Int32) (e22_ : σ 22 = f22_) (f23_ : Nat → Int32) (e23_ : σ 23 = f23_) (f24_ : Nat → Int32) (e24_ : σ 24 = f24_) (f25_ : Nat → Int32) (e25_ : σ 25 = f25_) (f26_ : Nat → Int32) (e26_ : σ 26 = f26_) (r : Nat) (x : Int32) (hR : f22_ 0 = nI r) (hr0 : r ≤ 30) (hP : f26_ 0 = nI 0) : CTi l yX6_parts cX6_parts 3 .int ({ frames := 4, cells := 0, slots := 0, locals := 84 }) ad D (tysW cs) (pre ++ (wM cs h σ ++ post)) [.ref (h 0), .int x] (ptV (f23_ 0) (f24_ 0) (f25_ 0) x) (pre ++ (wM cs h (su (su (su σ 21 (trB (f21_) r (ptC (f23_ 0) (f24_ 0) (f25_ 0)))) 22 (fun _ => nI (trR r (ptC (f23_ 0) (f24_ 0) (f25_ 0))))) 26 (fun _ => ptD (f24_ 0) (f25_ 0))) ++ post)) := by
  subst e21_; subst e22_; subst e23_; subst e24_; subst e25_; subst e26_
  exact t_X6_parts l ad D cs h σ pre post r x hR hr0 hP
theorem dX6_turnsPlain_0 : decode cX6_turnsPlain 0 = .ok (.aload_n 0, 1) := by decide +kernel
theorem dX6_turnsPlain_1 : decode cX6_turnsPlain 1 = .ok (.bipush 13, 2) := by decide +kernel
theorem dX6_turnsPlain_3 : decode cX6_turnsPlain 3 = .ok (.invokevirtual 290, 3) := by decide +kernel
theorem dX6_turnsPlain_6 : decode cX6_turnsPlain 6 = .ok (.aload_n 0, 1) := by decide +kernel
theorem dX6_turnsPlain_7 : decode cX6_turnsPlain 7 = .ok (.iload_n 1, 1) := by decide +kernel
theorem dX6_turnsPlain_8 : decode cX6_turnsPlain 8 = .ok (.invokevirtual 320, 3) := by decide +kernel
theorem dX6_turnsPlain_11 : decode cX6_turnsPlain 11 = .ok (.bipush 24, 2) := by decide +kernel
theorem dX6_turnsPlain_13 : decode cX6_turnsPlain 13 = .ok (.ixor, 1) := by decide +kernel
theorem dX6_turnsPlain_14 : decode cX6_turnsPlain 14 = .ok (.ireturn, 1) := by decide +kernel
set_option maxHeartbeats 400000 in
set_option maxRecDepth 20000 in
theorem t_X6_turnsPlain (l : Launch) (ad : Nat → Nat) (D : va_G) (cs : Nat → ClassId) (h : Nat → Nat) (σ : Nat → Nat → Int32) (pre post : va_W) (r : Nat) (x : Int32) (hR : σ 22 0 = nI r) (hr0 : r ≤ 30) : CTi l yX6_turnsPlain cX6_turnsPlain 2 .int ({ frames := 6, cells := 0, slots := 0, locals := 127 }) ad D (tysW cs) (pre ++ (wM cs h σ ++ post)) [.ref (h 0), .int x] (tuPV (σ 23 0) (σ 24 0) (σ 25 0) x) (pre ++ (wM cs h (su (su σ 21 (trB (σ 21) r (tuPC (σ 23 0)))) 22 (fun _ => nI (trR r (tuPC (σ 23 0))))) ++ post)) := by
  refine CTi.of (lv0 := [(0, .ref (h 0)), (1, .int x)]) (by decide) rfl (Nat.le_of_ble_eq_true rfl) (fun p e s m args below meth c A C hr hlk => ?_)
  have C : Cx p s m args c cX6_turnsPlain 2 RX6 ad D (tysW cs) A := C
  refine r_aload_n (pc := 0) C 0 dX6_turnsPlain_0 rfl rfl ?_
  refine r_bipush (pc := 1) C 13 dX6_turnsPlain_1 (by decide) ?_
  refine rc_Vv (pc := 3) C (t_X6_runs' l ad D cs h σ pre post (σ 21) (rfl) (σ 22) (rfl) r (13 : Int32) hR hr0) mv_X6_runs ml_RX6_290 rfl ⟨Nat.le_of_ble_eq_true rfl, Nat.le_of_ble_eq_true rfl⟩ ⟨rfl, rfl⟩ (q0 := 0) rfl rfl rfl rfl rfl rfl (Nat.le_of_ble_eq_true rfl) dX6_turnsPlain_3 ?_
  refine r_aload_n (pc := 6) C 0 dX6_turnsPlain_6 rfl rfl ?_
  refine r_iload_n (pc := 7) C 1 dX6_turnsPlain_7 rfl rfl ?_
  refine rc_Vi (pc := 8) C (t_X6_paysBy' l ad D cs h (su (su σ 21 (rnB (σ 21) r (13 : Int32))) 22 (fun _ => nI (rnR r))) pre post (rnB (σ 21) r (13 : Int32)) ((su_nn (by decide)).trans su_at) (fun _ => nI (rnR r)) (su_at) (σ 23) (((su_nn (by decide)).trans (su_nn (by decide)))) (σ 24) (((su_nn (by decide)).trans (su_nn (by decide)))) (σ 25) (((su_nn (by decide)).trans (su_nn (by decide)))) (rnR r) x rfl (rnR_le hr0)) mv_X6_paysBy ml_RX6_320 rfl ⟨Nat.le_of_ble_eq_true rfl, Nat.le_of_ble_eq_true rfl⟩ ⟨rfl, rfl⟩ (q0 := 0) rfl rfl rfl rfl rfl rfl (Nat.le_of_ble_eq_true rfl) dX6_turnsPlain_8 ?_
  refine r_blk (blk' := wM cs h (su (su σ 21 (trB (rnB (σ 21) r (13 : Int32)) (rnR r) (paC (σ 23 0)))) 22 (fun _ => nI (trR (rnR r) (paC (σ 23 0)))))) (congrArg (wM cs h) (by rw [su_cm (k := 22) (j := 21) (by decide), su_su (k := 21), su_su (k := 22)])) ?_
  refine r_bipush (pc := 11) C 24 dX6_turnsPlain_11 (by decide) ?_
  refine r_ixor (pc := 13) C dX6_turnsPlain_13 ?_
  exact r_iret (pc := 14) C hr hlk dX6_turnsPlain_14 rfl (by first | rfl | (simp [tuPV, *]; done) | simp_all [tuPV]) (by rw [show (trB (σ 21) r (tuPC (σ 23 0)) : Nat → Int32) = trB (rnB (σ 21) r (13 : Int32)) (rnR r) (paC (σ 23 0)) from (by first | rfl | (simp [tuPV, *]; done) | simp_all [tuPV]), show (fun _ => nI (trR r (tuPC (σ 23 0))) : Nat → Int32) = fun _ => nI (trR (rnR r) (paC (σ 23 0))) from (by first | rfl | (simp [tuPV, *]; done) | simp_all [tuPV])] <;> rfl)
theorem t_X6_turnsPlain' (l : Launch) (ad : Nat → Nat) (D : va_G) (cs : Nat → ClassId) (h : Nat → Nat) (σ : Nat → Nat → Int32) (pre post : va_W) (f21_ : Nat → Int32) (e21_ : σ 21 = f21_) (f22_ : Nat → Int32) (e22_ : σ 22 = f22_) (f23_ : Nat → Int32) (e23_ : σ 23 = f23_) (f24_ : Nat → Int32) (e24_ : σ 24 = f24_) (f25_ : Nat → Int32) (e25_ : σ 25 = f25_) (r : Nat) (x : Int32) (hR : f22_ 0 = nI r) (hr0 : r ≤ 30) : CTi l yX6_turnsPlain cX6_turnsPlain 2 .int ({ frames := 6, cells := 0, slots := 0, locals := 127 }) ad D (tysW cs) (pre ++ (wM cs h σ ++ post)) [.ref (h 0), .int x] (tuPV (f23_ 0) (f24_ 0) (f25_ 0) x) (pre ++ (wM cs h (su (su σ 21 (trB (f21_) r (tuPC (f23_ 0)))) 22 (fun _ => nI (trR r (tuPC (f23_ 0))))) ++ post)) := by
  subst e21_; subst e22_; subst e23_; subst e24_; subst e25_
  exact t_X6_turnsPlain l ad D cs h σ pre post r x hR hr0
theorem dX6_turns_0 : decode cX6_turns 0 = .ok (.aload_n 0, 1) := by decide +kernel
theorem dX6_turns_1 : decode cX6_turns 1 = .ok (.getfield 299, 3) := by decide +kernel
theorem dX6_turns_4 : decode cX6_turns 4 = .ok (.iconst 2, 1) := by decide +kernel
theorem dX6_turns_5 : decode cX6_turns 5 = .ok (.if_icmp .eq 11, 3) := by decide +kernel
theorem dX6_turns_8 : decode cX6_turns 8 = .ok (.aload_n 0, 1) := by decide +kernel
theorem dX6_turns_9 : decode cX6_turns 9 = .ok (.getfield 299, 3) := by decide +kernel
theorem dX6_turns_12 : decode cX6_turns 12 = .ok (.iconst 4, 1) := by decide +kernel
theorem dX6_turns_13 : decode cX6_turns 13 = .ok (.if_icmp .ne 26, 3) := by decide +kernel
theorem dX6_turns_16 : decode cX6_turns 16 = .ok (.aload_n 0, 1) := by decide +kernel
theorem dX6_turns_17 : decode cX6_turns 17 = .ok (.bipush 31, 2) := by decide +kernel
theorem dX6_turns_19 : decode cX6_turns 19 = .ok (.invokevirtual 290, 3) := by decide +kernel
theorem dX6_turns_22 : decode cX6_turns 22 = .ok (.aload_n 0, 1) := by decide +kernel
theorem dX6_turns_23 : decode cX6_turns 23 = .ok (.iload_n 1, 1) := by decide +kernel
theorem dX6_turns_24 : decode cX6_turns 24 = .ok (.invokevirtual 323, 3) := by decide +kernel
theorem dX6_turns_27 : decode cX6_turns 27 = .ok (.istore_n 2, 1) := by decide +kernel
theorem dX6_turns_28 : decode cX6_turns 28 = .ok (.iload_n 2, 1) := by decide +kernel
theorem dX6_turns_29 : decode cX6_turns 29 = .ok (.aload_n 0, 1) := by decide +kernel
theorem dX6_turns_30 : decode cX6_turns 30 = .ok (.aload_n 0, 1) := by decide +kernel
theorem dX6_turns_31 : decode cX6_turns 31 = .ok (.getfield 293, 3) := by decide +kernel
theorem dX6_turns_34 : decode cX6_turns 34 = .ok (.invokevirtual 326, 3) := by decide +kernel
theorem dX6_turns_37 : decode cX6_turns 37 = .ok (.iadd, 1) := by decide +kernel
theorem dX6_turns_38 : decode cX6_turns 38 = .ok (.ireturn, 1) := by decide +kernel
theorem dX6_turns_39 : decode cX6_turns 39 = .ok (.aload_n 0, 1) := by decide +kernel
theorem dX6_turns_40 : decode cX6_turns 40 = .ok (.getfield 299, 3) := by decide +kernel
theorem dX6_turns_43 : decode cX6_turns 43 = .ok (.iconst 5, 1) := by decide +kernel
theorem dX6_turns_44 : decode cX6_turns 44 = .ok (.if_icmp .ne 17, 3) := by decide +kernel
theorem dX6_turns_47 : decode cX6_turns 47 = .ok (.aload_n 0, 1) := by decide +kernel
theorem dX6_turns_48 : decode cX6_turns 48 = .ok (.bipush 60, 2) := by decide +kernel
theorem dX6_turns_50 : decode cX6_turns 50 = .ok (.invokevirtual 290, 3) := by decide +kernel
theorem dX6_turns_53 : decode cX6_turns 53 = .ok (.aload_n 0, 1) := by decide +kernel
theorem dX6_turns_54 : decode cX6_turns 54 = .ok (.iload_n 1, 1) := by decide +kernel
theorem dX6_turns_55 : decode cX6_turns 55 = .ok (.invokevirtual 323, 3) := by decide +kernel
theorem dX6_turns_58 : decode cX6_turns 58 = .ok (.iconst 5, 1) := by decide +kernel
theorem dX6_turns_59 : decode cX6_turns 59 = .ok (.imul, 1) := by decide +kernel
theorem dX6_turns_60 : decode cX6_turns 60 = .ok (.ireturn, 1) := by decide +kernel
theorem dX6_turns_61 : decode cX6_turns 61 = .ok (.aload_n 0, 1) := by decide +kernel
theorem dX6_turns_62 : decode cX6_turns 62 = .ok (.iload_n 1, 1) := by decide +kernel
theorem dX6_turns_63 : decode cX6_turns 63 = .ok (.invokevirtual 323, 3) := by decide +kernel
theorem dX6_turns_66 : decode cX6_turns 66 = .ok (.ireturn, 1) := by decide +kernel
set_option maxHeartbeats 400000 in
set_option maxRecDepth 20000 in
theorem t_X6_turns (l : Launch) (ad : Nat → Nat) (D : va_G) (cs : Nat → ClassId) (h : Nat → Nat) (σ : Nat → Nat → Int32) (pre post : va_W) (r : Nat) (x : Int32) (hR : σ 22 0 = nI r) (hr0 : r ≤ 30) (hP : σ 26 0 = nI 0) : CTi l yX6_turns cX6_turns 3 .int ({ frames := 7, cells := 0, slots := 0, locals := 148 }) ad D (tysW cs) (pre ++ (wM cs h σ ++ post)) [.ref (h 0), .int x] (tuV (σ 23 0) (σ 24 0) (σ 25 0) x) (pre ++ (wM cs h (su (su (su σ 21 (trB (σ 21) r (tuC (σ 23 0) (σ 24 0) (σ 25 0)))) 22 (fun _ => nI (trR r (tuC (σ 23 0) (σ 24 0) (σ 25 0))))) 26 (fun _ => tuD (σ 23 0) (σ 24 0) (σ 25 0))) ++ post)) := by
  refine CTi.of (lv0 := [(0, .ref (h 0)), (1, .int x)]) (by decide) rfl (Nat.le_of_ble_eq_true rfl) (fun p e s m args below meth c A C hr hlk => ?_)
  have C : Cx p s m args c cX6_turns 3 RX6 ad D (tysW cs) A := C
  refine r_aload_n (pc := 0) C 0 dX6_turns_0 rfl rfl ?_
  refine mg_actKind (pc := 1) C fl_RX6_299 dX6_turns_1 (σ 23 0) rfl ?_
  refine r_iconst (pc := 4) C 2 dX6_turns_4 (by decide) ?_
  refine r_icmp_eq (pc := 5) C 16 dX6_turns_5 (by decide) (fun c_1 => ?_) (fun c_1 => ?_)
  · skip
    refine r_aload_n (pc := 16) C 0 dX6_turns_16 rfl rfl ?_
    refine r_bipush (pc := 17) C 31 dX6_turns_17 (by decide) ?_
    refine rc_Vv (pc := 19) C (t_X6_runs' l ad D cs h σ pre post (σ 21) (rfl) (σ 22) (rfl) r (31 : Int32) hR hr0) mv_X6_runs ml_RX6_290 rfl ⟨Nat.le_of_ble_eq_true rfl, Nat.le_of_ble_eq_true rfl⟩ ⟨rfl, rfl⟩ (q0 := 0) rfl rfl rfl rfl rfl rfl (Nat.le_of_ble_eq_true rfl) dX6_turns_19 ?_
    refine r_aload_n (pc := 22) C 0 dX6_turns_22 rfl rfl ?_
    refine r_iload_n (pc := 23) C 1 dX6_turns_23 rfl rfl ?_
    refine rc_Vi (pc := 24) C (t_X6_turnsPlain' l ad D cs h (su (su σ 21 (rnB (σ 21) r (31 : Int32))) 22 (fun _ => nI (rnR r))) pre post (rnB (σ 21) r (31 : Int32)) ((su_nn (by decide)).trans su_at) (fun _ => nI (rnR r)) (su_at) (σ 23) (((su_nn (by decide)).trans (su_nn (by decide)))) (σ 24) (((su_nn (by decide)).trans (su_nn (by decide)))) (σ 25) (((su_nn (by decide)).trans (su_nn (by decide)))) (rnR r) x rfl (rnR_le hr0)) mv_X6_turnsPlain ml_RX6_323 rfl ⟨Nat.le_of_ble_eq_true rfl, Nat.le_of_ble_eq_true rfl⟩ ⟨rfl, rfl⟩ (q0 := 0) rfl rfl rfl rfl rfl rfl (Nat.le_of_ble_eq_true rfl) dX6_turns_24 ?_
    refine r_blk (blk' := wM cs h (su (su σ 21 (trB (rnB (σ 21) r (31 : Int32)) (rnR r) (tuPC (σ 23 0)))) 22 (fun _ => nI (trR (rnR r) (tuPC (σ 23 0)))))) (congrArg (wM cs h) (by rw [su_cm (k := 22) (j := 21) (by decide), su_su (k := 21), su_su (k := 22)])) ?_
    refine r_istore_n (pc := 27) C [(2, .int (tuPV (σ 23 0) (σ 24 0) (σ 25 0) x)), (0, .ref (h 0)), (1, .int x)] dX6_turns_27 rfl (by decide) rfl ?_
    refine r_iload_n (pc := 28) C 0 dX6_turns_28 rfl rfl ?_
    refine r_aload_n (pc := 29) C 1 dX6_turns_29 rfl rfl ?_
    refine r_aload_n (pc := 30) C 1 dX6_turns_30 rfl rfl ?_
    refine mg_actN (pc := 31) C fl_RX6_293 dX6_turns_31 (σ 24 0) (congrFun (((su_nn (by decide)).trans (su_nn (by decide)))) 0) ?_
    refine rc_Vi (pc := 34) C (t_X6_parts' l ad D cs h (su (su σ 21 (trB (rnB (σ 21) r (31 : Int32)) (rnR r) (tuPC (σ 23 0)))) 22 (fun _ => nI (trR (rnR r) (tuPC (σ 23 0))))) pre post (trB (rnB (σ 21) r (31 : Int32)) (rnR r) (tuPC (σ 23 0))) ((su_nn (by decide)).trans su_at) (fun _ => nI (trR (rnR r) (tuPC (σ 23 0)))) (su_at) (σ 23) (((su_nn (by decide)).trans (su_nn (by decide)))) (σ 24) (((su_nn (by decide)).trans (su_nn (by decide)))) (σ 25) (((su_nn (by decide)).trans (su_nn (by decide)))) (σ 26) (((su_nn (by decide)).trans (su_nn (by decide)))) (trR (rnR r) (tuPC (σ 23 0))) (σ 24 0) rfl (trR_le (rnR_le hr0) _) hP) mv_X6_parts ml_RX6_326 rfl ⟨Nat.le_of_ble_eq_true rfl, Nat.le_of_ble_eq_true rfl⟩ ⟨rfl, rfl⟩ (q0 := 0) rfl rfl rfl rfl rfl rfl (Nat.le_of_ble_eq_true rfl) dX6_turns_34 ?_
    refine r_blk (blk' := wM cs h (su (su (su σ 21 (trB (trB (rnB (σ 21) r (31 : Int32)) (rnR r) (tuPC (σ 23 0))) (trR (rnR r) (tuPC (σ 23 0))) (ptC (σ 23 0) (σ 24 0) (σ 25 0)))) 22 (fun _ => nI (trR (trR (rnR r) (tuPC (σ 23 0))) (ptC (σ 23 0) (σ 24 0) (σ 25 0))))) 26 (fun _ => ptD (σ 24 0) (σ 25 0)))) (congrArg (wM cs h) (by rw [su_cm (k := 22) (j := 21) (by decide), su_su (k := 21), su_su (k := 22)])) ?_
    refine r_iadd (pc := 37) C dX6_turns_37 ?_
    exact r_iret (pc := 38) C hr hlk dX6_turns_38 rfl (by first | rfl | (simp [nI_0, tuV, tuC, tuD, trB, trR, trB_app, trR_app, *]; done) | simp_all [nI_0, tuV, tuC, tuD, trB, trR, trB_app, trR_app]) (by rw [show (trB (σ 21) r (tuC (σ 23 0) (σ 24 0) (σ 25 0)) : Nat → Int32) = trB (trB (rnB (σ 21) r (31 : Int32)) (rnR r) (tuPC (σ 23 0))) (trR (rnR r) (tuPC (σ 23 0))) (ptC (σ 23 0) (σ 24 0) (σ 25 0)) from (by first | rfl | (simp [nI_0, tuV, tuC, tuD, trB, trR, trB_app, trR_app, *]; done) | simp_all [nI_0, tuV, tuC, tuD, trB, trR, trB_app, trR_app]), show (fun _ => nI (trR r (tuC (σ 23 0) (σ 24 0) (σ 25 0))) : Nat → Int32) = fun _ => nI (trR (trR (rnR r) (tuPC (σ 23 0))) (ptC (σ 23 0) (σ 24 0) (σ 25 0))) from (by first | rfl | (simp [nI_0, tuV, tuC, tuD, trB, trR, trB_app, trR_app, *]; done) | simp_all [nI_0, tuV, tuC, tuD, trB, trR, trB_app, trR_app]), show (fun _ => tuD (σ 23 0) (σ 24 0) (σ 25 0) : Nat → Int32) = fun _ => ptD (σ 24 0) (σ 25 0) from (by first | rfl | (simp [nI_0, tuV, tuC, tuD, trB, trR, trB_app, trR_app, *]; done) | simp_all [nI_0, tuV, tuC, tuD, trB, trR, trB_app, trR_app])] <;> rfl)
  · skip
    refine r_aload_n (pc := 8) C 0 dX6_turns_8 rfl rfl ?_
    refine mg_actKind (pc := 9) C fl_RX6_299 dX6_turns_9 (σ 23 0) rfl ?_
    refine r_iconst (pc := 12) C 4 dX6_turns_12 (by decide) ?_
    refine r_icmp_ne (pc := 13) C 39 dX6_turns_13 (by decide) (fun c_2 => ?_) (fun c_2 => ?_)
    · skip
      refine r_aload_n (pc := 39) C 0 dX6_turns_39 rfl rfl ?_
      refine mg_actKind (pc := 40) C fl_RX6_299 dX6_turns_40 (σ 23 0) rfl ?_
      refine r_iconst (pc := 43) C 5 dX6_turns_43 (by decide) ?_
      refine r_icmp_ne (pc := 44) C 61 dX6_turns_44 (by decide) (fun c_3 => ?_) (fun c_3 => ?_)
      · skip
        refine r_aload_n (pc := 61) C 0 dX6_turns_61 rfl rfl ?_
        refine r_iload_n (pc := 62) C 1 dX6_turns_62 rfl rfl ?_
        refine rc_Vi (pc := 63) C (t_X6_turnsPlain' l ad D cs h σ pre post (σ 21) (rfl) (σ 22) (rfl) (σ 23) (rfl) (σ 24) (rfl) (σ 25) (rfl) r x hR hr0) mv_X6_turnsPlain ml_RX6_323 rfl ⟨Nat.le_of_ble_eq_true rfl, Nat.le_of_ble_eq_true rfl⟩ ⟨rfl, rfl⟩ (q0 := 0) rfl rfl rfl rfl rfl rfl (Nat.le_of_ble_eq_true rfl) dX6_turns_63 ?_
        exact r_iret (pc := 66) C hr hlk dX6_turns_66 rfl (by first | rfl | (simp [nI_0, tuV, tuC, tuD, trB, trR, trB_app, trR_app, *]; done) | simp_all [nI_0, tuV, tuC, tuD, trB, trR, trB_app, trR_app]) (by rw [show (trB (σ 21) r (tuC (σ 23 0) (σ 24 0) (σ 25 0)) : Nat → Int32) = trB (σ 21) r (tuPC (σ 23 0)) from (by first | rfl | (simp [nI_0, tuV, tuC, tuD, trB, trR, trB_app, trR_app, *]; done) | simp_all [nI_0, tuV, tuC, tuD, trB, trR, trB_app, trR_app]), show (fun _ => nI (trR r (tuC (σ 23 0) (σ 24 0) (σ 25 0))) : Nat → Int32) = fun _ => nI (trR r (tuPC (σ 23 0))) from (by first | rfl | (simp [nI_0, tuV, tuC, tuD, trB, trR, trB_app, trR_app, *]; done) | simp_all [nI_0, tuV, tuC, tuD, trB, trR, trB_app, trR_app]), show (fun _ => tuD (σ 23 0) (σ 24 0) (σ 25 0) : Nat → Int32) = fun _ => σ 26 0 from (by first | rfl | (simp [nI_0, tuV, tuC, tuD, trB, trR, trB_app, trR_app, *]; done) | simp_all [nI_0, tuV, tuC, tuD, trB, trR, trB_app, trR_app])] <;> rfl)
      · skip
        refine r_aload_n (pc := 47) C 0 dX6_turns_47 rfl rfl ?_
        refine r_bipush (pc := 48) C 60 dX6_turns_48 (by decide) ?_
        refine rc_Vv (pc := 50) C (t_X6_runs' l ad D cs h σ pre post (σ 21) (rfl) (σ 22) (rfl) r (60 : Int32) hR hr0) mv_X6_runs ml_RX6_290 rfl ⟨Nat.le_of_ble_eq_true rfl, Nat.le_of_ble_eq_true rfl⟩ ⟨rfl, rfl⟩ (q0 := 0) rfl rfl rfl rfl rfl rfl (Nat.le_of_ble_eq_true rfl) dX6_turns_50 ?_
        refine r_aload_n (pc := 53) C 0 dX6_turns_53 rfl rfl ?_
        refine r_iload_n (pc := 54) C 1 dX6_turns_54 rfl rfl ?_
        refine rc_Vi (pc := 55) C (t_X6_turnsPlain' l ad D cs h (su (su σ 21 (rnB (σ 21) r (60 : Int32))) 22 (fun _ => nI (rnR r))) pre post (rnB (σ 21) r (60 : Int32)) ((su_nn (by decide)).trans su_at) (fun _ => nI (rnR r)) (su_at) (σ 23) (((su_nn (by decide)).trans (su_nn (by decide)))) (σ 24) (((su_nn (by decide)).trans (su_nn (by decide)))) (σ 25) (((su_nn (by decide)).trans (su_nn (by decide)))) (rnR r) x rfl (rnR_le hr0)) mv_X6_turnsPlain ml_RX6_323 rfl ⟨Nat.le_of_ble_eq_true rfl, Nat.le_of_ble_eq_true rfl⟩ ⟨rfl, rfl⟩ (q0 := 0) rfl rfl rfl rfl rfl rfl (Nat.le_of_ble_eq_true rfl) dX6_turns_55 ?_
        refine r_blk (blk' := wM cs h (su (su σ 21 (trB (rnB (σ 21) r (60 : Int32)) (rnR r) (tuPC (σ 23 0)))) 22 (fun _ => nI (trR (rnR r) (tuPC (σ 23 0)))))) (congrArg (wM cs h) (by rw [su_cm (k := 22) (j := 21) (by decide), su_su (k := 21), su_su (k := 22)])) ?_
        refine r_iconst (pc := 58) C 5 dX6_turns_58 (by decide) ?_
        refine r_imul (pc := 59) C dX6_turns_59 ?_
        exact r_iret (pc := 60) C hr hlk dX6_turns_60 rfl (by first | rfl | (simp [nI_0, tuV, tuC, tuD, trB, trR, trB_app, trR_app, *]; done) | simp_all [nI_0, tuV, tuC, tuD, trB, trR, trB_app, trR_app]) (by rw [show (trB (σ 21) r (tuC (σ 23 0) (σ 24 0) (σ 25 0)) : Nat → Int32) = trB (rnB (σ 21) r (60 : Int32)) (rnR r) (tuPC (σ 23 0)) from (by first | rfl | (simp [nI_0, tuV, tuC, tuD, trB, trR, trB_app, trR_app, *]; done) | simp_all [nI_0, tuV, tuC, tuD, trB, trR, trB_app, trR_app]), show (fun _ => nI (trR r (tuC (σ 23 0) (σ 24 0) (σ 25 0))) : Nat → Int32) = fun _ => nI (trR (rnR r) (tuPC (σ 23 0))) from (by first | rfl | (simp [nI_0, tuV, tuC, tuD, trB, trR, trB_app, trR_app, *]; done) | simp_all [nI_0, tuV, tuC, tuD, trB, trR, trB_app, trR_app]), show (fun _ => tuD (σ 23 0) (σ 24 0) (σ 25 0) : Nat → Int32) = fun _ => σ 26 0 from (by first | rfl | (simp [nI_0, tuV, tuC, tuD, trB, trR, trB_app, trR_app, *]; done) | simp_all [nI_0, tuV, tuC, tuD, trB, trR, trB_app, trR_app])] <;> rfl)
    · skip
      refine r_aload_n (pc := 16) C 0 dX6_turns_16 rfl rfl ?_
      refine r_bipush (pc := 17) C 31 dX6_turns_17 (by decide) ?_
      refine rc_Vv (pc := 19) C (t_X6_runs' l ad D cs h σ pre post (σ 21) (rfl) (σ 22) (rfl) r (31 : Int32) hR hr0) mv_X6_runs ml_RX6_290 rfl ⟨Nat.le_of_ble_eq_true rfl, Nat.le_of_ble_eq_true rfl⟩ ⟨rfl, rfl⟩ (q0 := 0) rfl rfl rfl rfl rfl rfl (Nat.le_of_ble_eq_true rfl) dX6_turns_19 ?_
      refine r_aload_n (pc := 22) C 0 dX6_turns_22 rfl rfl ?_
      refine r_iload_n (pc := 23) C 1 dX6_turns_23 rfl rfl ?_
      refine rc_Vi (pc := 24) C (t_X6_turnsPlain' l ad D cs h (su (su σ 21 (rnB (σ 21) r (31 : Int32))) 22 (fun _ => nI (rnR r))) pre post (rnB (σ 21) r (31 : Int32)) ((su_nn (by decide)).trans su_at) (fun _ => nI (rnR r)) (su_at) (σ 23) (((su_nn (by decide)).trans (su_nn (by decide)))) (σ 24) (((su_nn (by decide)).trans (su_nn (by decide)))) (σ 25) (((su_nn (by decide)).trans (su_nn (by decide)))) (rnR r) x rfl (rnR_le hr0)) mv_X6_turnsPlain ml_RX6_323 rfl ⟨Nat.le_of_ble_eq_true rfl, Nat.le_of_ble_eq_true rfl⟩ ⟨rfl, rfl⟩ (q0 := 0) rfl rfl rfl rfl rfl rfl (Nat.le_of_ble_eq_true rfl) dX6_turns_24 ?_
      refine r_blk (blk' := wM cs h (su (su σ 21 (trB (rnB (σ 21) r (31 : Int32)) (rnR r) (tuPC (σ 23 0)))) 22 (fun _ => nI (trR (rnR r) (tuPC (σ 23 0)))))) (congrArg (wM cs h) (by rw [su_cm (k := 22) (j := 21) (by decide), su_su (k := 21), su_su (k := 22)])) ?_
      refine r_istore_n (pc := 27) C [(2, .int (tuPV (σ 23 0) (σ 24 0) (σ 25 0) x)), (0, .ref (h 0)), (1, .int x)] dX6_turns_27 rfl (by decide) rfl ?_
      refine r_iload_n (pc := 28) C 0 dX6_turns_28 rfl rfl ?_
      refine r_aload_n (pc := 29) C 1 dX6_turns_29 rfl rfl ?_
      refine r_aload_n (pc := 30) C 1 dX6_turns_30 rfl rfl ?_
      refine mg_actN (pc := 31) C fl_RX6_293 dX6_turns_31 (σ 24 0) (congrFun (((su_nn (by decide)).trans (su_nn (by decide)))) 0) ?_
      refine rc_Vi (pc := 34) C (t_X6_parts' l ad D cs h (su (su σ 21 (trB (rnB (σ 21) r (31 : Int32)) (rnR r) (tuPC (σ 23 0)))) 22 (fun _ => nI (trR (rnR r) (tuPC (σ 23 0))))) pre post (trB (rnB (σ 21) r (31 : Int32)) (rnR r) (tuPC (σ 23 0))) ((su_nn (by decide)).trans su_at) (fun _ => nI (trR (rnR r) (tuPC (σ 23 0)))) (su_at) (σ 23) (((su_nn (by decide)).trans (su_nn (by decide)))) (σ 24) (((su_nn (by decide)).trans (su_nn (by decide)))) (σ 25) (((su_nn (by decide)).trans (su_nn (by decide)))) (σ 26) (((su_nn (by decide)).trans (su_nn (by decide)))) (trR (rnR r) (tuPC (σ 23 0))) (σ 24 0) rfl (trR_le (rnR_le hr0) _) hP) mv_X6_parts ml_RX6_326 rfl ⟨Nat.le_of_ble_eq_true rfl, Nat.le_of_ble_eq_true rfl⟩ ⟨rfl, rfl⟩ (q0 := 0) rfl rfl rfl rfl rfl rfl (Nat.le_of_ble_eq_true rfl) dX6_turns_34 ?_
      refine r_blk (blk' := wM cs h (su (su (su σ 21 (trB (trB (rnB (σ 21) r (31 : Int32)) (rnR r) (tuPC (σ 23 0))) (trR (rnR r) (tuPC (σ 23 0))) (ptC (σ 23 0) (σ 24 0) (σ 25 0)))) 22 (fun _ => nI (trR (trR (rnR r) (tuPC (σ 23 0))) (ptC (σ 23 0) (σ 24 0) (σ 25 0))))) 26 (fun _ => ptD (σ 24 0) (σ 25 0)))) (congrArg (wM cs h) (by rw [su_cm (k := 22) (j := 21) (by decide), su_su (k := 21), su_su (k := 22)])) ?_
      refine r_iadd (pc := 37) C dX6_turns_37 ?_
      exact r_iret (pc := 38) C hr hlk dX6_turns_38 rfl (by first | rfl | (simp [nI_0, tuV, tuC, tuD, trB, trR, trB_app, trR_app, *]; done) | simp_all [nI_0, tuV, tuC, tuD, trB, trR, trB_app, trR_app]) (by rw [show (trB (σ 21) r (tuC (σ 23 0) (σ 24 0) (σ 25 0)) : Nat → Int32) = trB (trB (rnB (σ 21) r (31 : Int32)) (rnR r) (tuPC (σ 23 0))) (trR (rnR r) (tuPC (σ 23 0))) (ptC (σ 23 0) (σ 24 0) (σ 25 0)) from (by first | rfl | (simp [nI_0, tuV, tuC, tuD, trB, trR, trB_app, trR_app, *]; done) | simp_all [nI_0, tuV, tuC, tuD, trB, trR, trB_app, trR_app]), show (fun _ => nI (trR r (tuC (σ 23 0) (σ 24 0) (σ 25 0))) : Nat → Int32) = fun _ => nI (trR (trR (rnR r) (tuPC (σ 23 0))) (ptC (σ 23 0) (σ 24 0) (σ 25 0))) from (by first | rfl | (simp [nI_0, tuV, tuC, tuD, trB, trR, trB_app, trR_app, *]; done) | simp_all [nI_0, tuV, tuC, tuD, trB, trR, trB_app, trR_app]), show (fun _ => tuD (σ 23 0) (σ 24 0) (σ 25 0) : Nat → Int32) = fun _ => ptD (σ 24 0) (σ 25 0) from (by first | rfl | (simp [nI_0, tuV, tuC, tuD, trB, trR, trB_app, trR_app, *]; done) | simp_all [nI_0, tuV, tuC, tuD, trB, trR, trB_app, trR_app])] <;> rfl)
theorem t_X6_turns' (l : Launch) (ad : Nat → Nat) (D : va_G) (cs : Nat → ClassId) (h : Nat → Nat) (σ : Nat → Nat → Int32) (pre post : va_W) (f21_ : Nat → Int32) (e21_ : σ 21 = f21_) (f22_ : Nat → Int32) (e22_ : σ 22 = f22_) (f23_ : Nat → Int32) (e23_ : σ 23 = f23_) (f24_ : Nat → Int32) (e24_ : σ 24 = f24_) (f25_ : Nat → Int32) (e25_ : σ 25 = f25_) (f26_ : Nat → Int32) (e26_ : σ 26 = f26_) (r : Nat) (x : Int32) (hR : f22_ 0 = nI r) (hr0 : r ≤ 30) (hP : f26_ 0 = nI 0) : CTi l yX6_turns cX6_turns 3 .int ({ frames := 7, cells := 0, slots := 0, locals := 148 }) ad D (tysW cs) (pre ++ (wM cs h σ ++ post)) [.ref (h 0), .int x] (tuV (f23_ 0) (f24_ 0) (f25_ 0) x) (pre ++ (wM cs h (su (su (su σ 21 (trB (f21_) r (tuC (f23_ 0) (f24_ 0) (f25_ 0)))) 22 (fun _ => nI (trR r (tuC (f23_ 0) (f24_ 0) (f25_ 0))))) 26 (fun _ => tuD (f23_ 0) (f24_ 0) (f25_ 0))) ++ post)) := by
  subst e21_; subst e22_; subst e23_; subst e24_; subst e25_; subst e26_
  exact t_X6_turns l ad D cs h σ pre post r x hR hr0 hP
theorem dX6_isSheet_0 : decode cX6_isSheet 0 = .ok (.iload_n 0, 1) := by decide +kernel
theorem dX6_isSheet_1 : decode cX6_isSheet 1 = .ok (.i2l, 1) := by decide +kernel
theorem dX6_isSheet_2 : decode cX6_isSheet 2 = .ok (.lconst 0, 1) := by decide +kernel
theorem dX6_isSheet_3 : decode cX6_isSheet 3 = .ok (.ldc2_w 144, 3) := by decide +kernel
theorem dX6_isSheet_6 : decode cX6_isSheet 6 = .ok (.invokestatic 57, 3) := by decide +kernel
theorem dX6_isSheet_9 : decode cX6_isSheet 9 = .ok (.ireturn, 1) := by decide +kernel
set_option maxHeartbeats 400000 in
set_option maxRecDepth 20000 in
theorem t_X6_isSheet (l : Launch) (ad : Nat → Nat) (D : va_G) (tys : List (ClassId × FieldType)) (bk : va_W) (pre post : va_W) (x : Int32)  : CTi l yX6_isSheet cX6_isSheet 1 .boolean ({ frames := 1, cells := 0, slots := 0, locals := 25 }) ad D tys (pre ++ (bk ++ post)) [.int x] (bI (inB x 0 3 = true)) (pre ++ (bk ++ post)) := by
  refine CTi.of (lv0 := [(0, .int x)]) (by decide) rfl (Nat.le_of_ble_eq_true rfl) (fun p e s m args below meth c A C hr hlk => ?_)
  have C : Cx p s m args c cX6_isSheet 1 RX6 ad D tys A := C
  refine r_iload_n (pc := 0) C 0 dX6_isSheet_0 rfl rfl ?_
  refine r_i2l (pc := 1) C dX6_isSheet_1 ?_
  refine r_lconst (pc := 2) C 0 dX6_isSheet_2 (by decide) ?_
  refine r_ldc2 (pc := 3) C dX6_isSheet_3 cn_RX6_144 ?_
  refine rc_Si (pc := 6) C (t_X6_isIn l ad D tys bk pre post  x (0 : Int32) (3 : Int32) ) ms_X6_isIn ml_RX6_57 rfl ⟨Nat.le_of_ble_eq_true rfl, Nat.le_of_ble_eq_true rfl⟩ ⟨rfl, rfl⟩ rfl rfl rfl (Nat.le_of_ble_eq_true rfl) dX6_isSheet_6 ?_
  exact r_iret (pc := 9) C hr hlk dX6_isSheet_9 bI_nar (by first | rfl | simp [bI, *]) rfl
theorem dX6_isShelf_0 : decode cX6_isShelf 0 = .ok (.iload_n 0, 1) := by decide +kernel
theorem dX6_isShelf_1 : decode cX6_isShelf 1 = .ok (.i2l, 1) := by decide +kernel
theorem dX6_isShelf_2 : decode cX6_isShelf 2 = .ok (.lconst 0, 1) := by decide +kernel
theorem dX6_isShelf_3 : decode cX6_isShelf 3 = .ok (.ldc2_w 144, 3) := by decide +kernel
theorem dX6_isShelf_6 : decode cX6_isShelf 6 = .ok (.invokestatic 57, 3) := by decide +kernel
theorem dX6_isShelf_9 : decode cX6_isShelf 9 = .ok (.ireturn, 1) := by decide +kernel
set_option maxHeartbeats 400000 in
set_option maxRecDepth 20000 in
theorem t_X6_isShelf (l : Launch) (ad : Nat → Nat) (D : va_G) (tys : List (ClassId × FieldType)) (bk : va_W) (pre post : va_W) (x : Int32)  : CTi l yX6_isShelf cX6_isShelf 1 .boolean ({ frames := 1, cells := 0, slots := 0, locals := 25 }) ad D tys (pre ++ (bk ++ post)) [.int x] (bI (inB x 0 3 = true)) (pre ++ (bk ++ post)) := by
  refine CTi.of (lv0 := [(0, .int x)]) (by decide) rfl (Nat.le_of_ble_eq_true rfl) (fun p e s m args below meth c A C hr hlk => ?_)
  have C : Cx p s m args c cX6_isShelf 1 RX6 ad D tys A := C
  refine r_iload_n (pc := 0) C 0 dX6_isShelf_0 rfl rfl ?_
  refine r_i2l (pc := 1) C dX6_isShelf_1 ?_
  refine r_lconst (pc := 2) C 0 dX6_isShelf_2 (by decide) ?_
  refine r_ldc2 (pc := 3) C dX6_isShelf_3 cn_RX6_144 ?_
  refine rc_Si (pc := 6) C (t_X6_isIn l ad D tys bk pre post  x (0 : Int32) (3 : Int32) ) ms_X6_isIn ml_RX6_57 rfl ⟨Nat.le_of_ble_eq_true rfl, Nat.le_of_ble_eq_true rfl⟩ ⟨rfl, rfl⟩ rfl rfl rfl (Nat.le_of_ble_eq_true rfl) dX6_isShelf_6 ?_
  exact r_iret (pc := 9) C hr hlk dX6_isShelf_9 bI_nar (by first | rfl | simp [bI, *]) rfl
theorem dX6_isUnder_0 : decode cX6_isUnder 0 = .ok (.iload_n 1, 1) := by decide +kernel
theorem dX6_isUnder_1 : decode cX6_isUnder 1 = .ok (.ifCond .eq 28, 3) := by decide +kernel
theorem dX6_isUnder_4 : decode cX6_isUnder 4 = .ok (.iload_n 0, 1) := by decide +kernel
theorem dX6_isUnder_5 : decode cX6_isUnder 5 = .ok (.iload_n 1, 1) := by decide +kernel
theorem dX6_isUnder_6 : decode cX6_isUnder 6 = .ok (.if_icmp .eq 23, 3) := by decide +kernel
theorem dX6_isUnder_9 : decode cX6_isUnder 9 = .ok (.iload_n 1, 1) := by decide +kernel
theorem dX6_isUnder_10 : decode cX6_isUnder 10 = .ok (.iconst 1, 1) := by decide +kernel
theorem dX6_isUnder_11 : decode cX6_isUnder 11 = .ok (.if_icmp .ne 8, 3) := by decide +kernel
theorem dX6_isUnder_14 : decode cX6_isUnder 14 = .ok (.iload_n 0, 1) := by decide +kernel
theorem dX6_isUnder_15 : decode cX6_isUnder 15 = .ok (.iconst 3, 1) := by decide +kernel
theorem dX6_isUnder_16 : decode cX6_isUnder 16 = .ok (.if_icmp .eq 13, 3) := by decide +kernel
theorem dX6_isUnder_19 : decode cX6_isUnder 19 = .ok (.iload_n 1, 1) := by decide +kernel
theorem dX6_isUnder_20 : decode cX6_isUnder 20 = .ok (.iconst 2, 1) := by decide +kernel
theorem dX6_isUnder_21 : decode cX6_isUnder 21 = .ok (.if_icmp .ne 12, 3) := by decide +kernel
theorem dX6_isUnder_24 : decode cX6_isUnder 24 = .ok (.iload_n 0, 1) := by decide +kernel
theorem dX6_isUnder_25 : decode cX6_isUnder 25 = .ok (.iconst 4, 1) := by decide +kernel
theorem dX6_isUnder_26 : decode cX6_isUnder 26 = .ok (.if_icmp .ne 7, 3) := by decide +kernel
theorem dX6_isUnder_29 : decode cX6_isUnder 29 = .ok (.iconst 1, 1) := by decide +kernel
theorem dX6_isUnder_30 : decode cX6_isUnder 30 = .ok (.goto 4, 3) := by decide +kernel
theorem dX6_isUnder_33 : decode cX6_isUnder 33 = .ok (.iconst 0, 1) := by decide +kernel
theorem dX6_isUnder_34 : decode cX6_isUnder 34 = .ok (.ireturn, 1) := by decide +kernel
set_option maxHeartbeats 400000 in
set_option maxRecDepth 20000 in
theorem t_X6_isUnder (l : Launch) (ad : Nat → Nat) (D : va_G) (tys : List (ClassId × FieldType)) (bk : va_W) (pre post : va_W) (w x : Int32)  : CTi l yX6_isUnder cX6_isUnder 2 .boolean ({ frames := 0, cells := 0, slots := 0, locals := 0 }) ad D tys (pre ++ (bk ++ post)) [.int w, .int x] (bI (undB w x = true)) (pre ++ (bk ++ post)) := by
  refine CTi.of (lv0 := [(0, .int w), (1, .int x)]) (by decide) rfl (Nat.le_of_ble_eq_true rfl) (fun p e s m args below meth c A C hr hlk => ?_)
  have C : Cx p s m args c cX6_isUnder 2 RX6 ad D tys A := C
  refine r_iload_n (pc := 0) C 1 dX6_isUnder_0 rfl rfl ?_
  refine r_if_eq (pc := 1) C 29 dX6_isUnder_1 (by decide) (fun c_1 => ?_) (fun c_1 => ?_)
  · skip
    refine r_iconst (pc := 29) C 1 dX6_isUnder_29 (by decide) ?_
    refine r_goto (pc := 30) C 34 dX6_isUnder_30 (by decide) ?_
    exact r_iret (pc := 34) C hr hlk dX6_isUnder_34 rfl (by simp_all [bI, undB]) rfl
  · skip
    refine r_iload_n (pc := 4) C 0 dX6_isUnder_4 rfl rfl ?_
    refine r_iload_n (pc := 5) C 1 dX6_isUnder_5 rfl rfl ?_
    refine r_icmp_eq (pc := 6) C 29 dX6_isUnder_6 (by decide) (fun c_2 => ?_) (fun c_2 => ?_)
    · skip
      refine r_iconst (pc := 29) C 1 dX6_isUnder_29 (by decide) ?_
      refine r_goto (pc := 30) C 34 dX6_isUnder_30 (by decide) ?_
      exact r_iret (pc := 34) C hr hlk dX6_isUnder_34 rfl (by simp_all [bI, undB]) rfl
    · skip
      refine r_iload_n (pc := 9) C 1 dX6_isUnder_9 rfl rfl ?_
      refine r_iconst (pc := 10) C 1 dX6_isUnder_10 (by decide) ?_
      refine r_icmp_ne (pc := 11) C 19 dX6_isUnder_11 (by decide) (fun c_3 => ?_) (fun c_3 => ?_)
      · skip
        refine r_iload_n (pc := 19) C 1 dX6_isUnder_19 rfl rfl ?_
        refine r_iconst (pc := 20) C 2 dX6_isUnder_20 (by decide) ?_
        refine r_icmp_ne (pc := 21) C 33 dX6_isUnder_21 (by decide) (fun c_4 => ?_) (fun c_4 => ?_)
        · skip
          refine r_iconst (pc := 33) C 0 dX6_isUnder_33 (by decide) ?_
          exact r_iret (pc := 34) C hr hlk dX6_isUnder_34 rfl (by simp_all [bI, undB]) rfl
        · skip
          refine r_iload_n (pc := 24) C 0 dX6_isUnder_24 rfl rfl ?_
          refine r_iconst (pc := 25) C 4 dX6_isUnder_25 (by decide) ?_
          refine r_icmp_ne (pc := 26) C 33 dX6_isUnder_26 (by decide) (fun c_5 => ?_) (fun c_5 => ?_)
          · skip
            refine r_iconst (pc := 33) C 0 dX6_isUnder_33 (by decide) ?_
            exact r_iret (pc := 34) C hr hlk dX6_isUnder_34 rfl (by simp_all [bI, undB]) rfl
          · skip
            refine r_iconst (pc := 29) C 1 dX6_isUnder_29 (by decide) ?_
            refine r_goto (pc := 30) C 34 dX6_isUnder_30 (by decide) ?_
            exact r_iret (pc := 34) C hr hlk dX6_isUnder_34 rfl (by simp_all [bI, undB]) rfl
      · skip
        refine r_iload_n (pc := 14) C 0 dX6_isUnder_14 rfl rfl ?_
        refine r_iconst (pc := 15) C 3 dX6_isUnder_15 (by decide) ?_
        refine r_icmp_eq (pc := 16) C 29 dX6_isUnder_16 (by decide) (fun c_6 => ?_) (fun c_6 => ?_)
        · skip
          refine r_iconst (pc := 29) C 1 dX6_isUnder_29 (by decide) ?_
          refine r_goto (pc := 30) C 34 dX6_isUnder_30 (by decide) ?_
          exact r_iret (pc := 34) C hr hlk dX6_isUnder_34 rfl (by simp_all [bI, undB]) rfl
        · skip
          refine r_iload_n (pc := 19) C 1 dX6_isUnder_19 rfl rfl ?_
          refine r_iconst (pc := 20) C 2 dX6_isUnder_20 (by decide) ?_
          refine r_icmp_ne (pc := 21) C 33 dX6_isUnder_21 (by decide) (fun c_7 => ?_) (fun c_7 => ?_)
          · skip
            refine r_iconst (pc := 33) C 0 dX6_isUnder_33 (by decide) ?_
            exact r_iret (pc := 34) C hr hlk dX6_isUnder_34 rfl (by simp_all [bI, undB]) rfl
          · skip
            refine r_iload_n (pc := 24) C 0 dX6_isUnder_24 rfl rfl ?_
            refine r_iconst (pc := 25) C 4 dX6_isUnder_25 (by decide) ?_
            refine r_icmp_ne (pc := 26) C 33 dX6_isUnder_26 (by decide) (fun c_8 => ?_) (fun c_8 => ?_)
            · skip
              refine r_iconst (pc := 33) C 0 dX6_isUnder_33 (by decide) ?_
              exact r_iret (pc := 34) C hr hlk dX6_isUnder_34 rfl (by simp_all [bI, undB]) rfl
            · skip
              refine r_iconst (pc := 29) C 1 dX6_isUnder_29 (by decide) ?_
              refine r_goto (pc := 30) C 34 dX6_isUnder_30 (by decide) ?_
              exact r_iret (pc := 34) C hr hlk dX6_isUnder_34 rfl (by simp_all [bI, undB]) rfl
theorem dX6_heldOn_0 : decode cX6_heldOn 0 = .ok (.aload_n 0, 1) := by decide +kernel
theorem dX6_heldOn_1 : decode cX6_heldOn 1 = .ok (.getfield 40, 3) := by decide +kernel
theorem dX6_heldOn_4 : decode cX6_heldOn 4 = .ok (.iload_n 1, 1) := by decide +kernel
theorem dX6_heldOn_5 : decode cX6_heldOn 5 = .ok (.iaload, 1) := by decide +kernel
theorem dX6_heldOn_6 : decode cX6_heldOn 6 = .ok (.iconst 1, 1) := by decide +kernel
theorem dX6_heldOn_7 : decode cX6_heldOn 7 = .ok (.if_icmp .ne 20, 3) := by decide +kernel
theorem dX6_heldOn_10 : decode cX6_heldOn 10 = .ok (.aload_n 0, 1) := by decide +kernel
theorem dX6_heldOn_11 : decode cX6_heldOn 11 = .ok (.aload_n 0, 1) := by decide +kernel
theorem dX6_heldOn_12 : decode cX6_heldOn 12 = .ok (.getfield 43, 3) := by decide +kernel
theorem dX6_heldOn_15 : decode cX6_heldOn 15 = .ok (.iload_n 1, 1) := by decide +kernel
theorem dX6_heldOn_16 : decode cX6_heldOn 16 = .ok (.iaload, 1) := by decide +kernel
theorem dX6_heldOn_17 : decode cX6_heldOn 17 = .ok (.invokevirtual 168, 3) := by decide +kernel
theorem dX6_heldOn_20 : decode cX6_heldOn 20 = .ok (.ifCond .ne 7, 3) := by decide +kernel
theorem dX6_heldOn_23 : decode cX6_heldOn 23 = .ok (.iconst 0, 1) := by decide +kernel
theorem dX6_heldOn_24 : decode cX6_heldOn 24 = .ok (.goto 9, 3) := by decide +kernel
theorem dX6_heldOn_27 : decode cX6_heldOn 27 = .ok (.aload_n 0, 1) := by decide +kernel
theorem dX6_heldOn_28 : decode cX6_heldOn 28 = .ok (.getfield 40, 3) := by decide +kernel
theorem dX6_heldOn_31 : decode cX6_heldOn 31 = .ok (.iload_n 1, 1) := by decide +kernel
theorem dX6_heldOn_32 : decode cX6_heldOn 32 = .ok (.iaload, 1) := by decide +kernel
theorem dX6_heldOn_33 : decode cX6_heldOn 33 = .ok (.ireturn, 1) := by decide +kernel
set_option maxHeartbeats 400000 in
set_option maxRecDepth 20000 in
theorem t_X6_heldOn (l : Launch) (ad : Nat → Nat) (D : va_G) (cs : Nat → ClassId) (h : Nat → Nat) (σ : Nat → Nat → Int32) (pre post : va_W) (n : Nat) (g : Nat) (hN : σ 0 0 = nI n) (hn : n ≤ 8) (hg : g < 4) : CTi l yX6_heldOn cX6_heldOn 2 .int ({ frames := 1, cells := 0, slots := 0, locals := 21 }) ad D (tysW cs) (pre ++ (wM cs h σ ++ post)) [.ref (h 0), .int (nI g)] (hoF n (σ 18) (σ 19) g) (pre ++ (wM cs h σ ++ post)) := by
  refine CTi.of (lv0 := [(0, .ref (h 0)), (1, .int (nI g))]) (by decide) rfl (Nat.le_of_ble_eq_true rfl) (fun p e s m args below meth c A C hr hlk => ?_)
  have C : Cx p s m args c cX6_heldOn 2 RX6 ad D (tysW cs) A := C
  refine r_aload_n (pc := 0) C 0 dX6_heldOn_0 rfl rfl ?_
  refine mg_holdsWhat (pc := 1) C fl_RX6_40 dX6_heldOn_1 ?_
  refine r_iload_n (pc := 4) C 1 dX6_heldOn_4 rfl rfl ?_
  refine al_holdsWhat (pc := 5) C g (rfl) (by omega) dX6_heldOn_5 (σ 18 g) rfl ?_
  refine r_iconst (pc := 6) C 1 dX6_heldOn_6 (by decide) ?_
  refine r_icmp_ne (pc := 7) C 27 dX6_heldOn_7 (by decide) (fun c_1 => ?_) (fun c_1 => ?_)
  · skip
    refine r_aload_n (pc := 27) C 0 dX6_heldOn_27 rfl rfl ?_
    refine mg_holdsWhat (pc := 28) C fl_RX6_40 dX6_heldOn_28 ?_
    refine r_iload_n (pc := 31) C 1 dX6_heldOn_31 rfl rfl ?_
    refine al_holdsWhat (pc := 32) C g (rfl) (by omega) dX6_heldOn_32 (σ 18 g) rfl ?_
    exact r_iret (pc := 33) C hr hlk dX6_heldOn_33 rfl (by simp [hoF, *]) rfl
  · skip
    refine r_aload_n (pc := 10) C 0 dX6_heldOn_10 rfl rfl ?_
    refine r_aload_n (pc := 11) C 0 dX6_heldOn_11 rfl rfl ?_
    refine mg_holdsWhich (pc := 12) C fl_RX6_43 dX6_heldOn_12 ?_
    refine r_iload_n (pc := 15) C 1 dX6_heldOn_15 rfl rfl ?_
    refine al_holdsWhich (pc := 16) C g (rfl) (by omega) dX6_heldOn_16 (σ 19 g) rfl ?_
    refine rc_Vi (pc := 17) C (t_X6_isOne' l ad D cs h σ pre post (σ 0) (rfl) n (σ 19 g) hN hn) mv_X6_isOne ml_RX6_168 rfl ⟨Nat.le_of_ble_eq_true rfl, Nat.le_of_ble_eq_true rfl⟩ ⟨rfl, rfl⟩ (q0 := 0) rfl rfl rfl rfl rfl rfl (Nat.le_of_ble_eq_true rfl) dX6_heldOn_17 ?_
    refine r_if_ne (pc := 20) C 27 dX6_heldOn_20 (by decide) (fun c_2 => ?_) (fun c_2 => ?_)
    · skip
      have c_2 := bI_n.mp c_2
      refine r_aload_n (pc := 27) C 0 dX6_heldOn_27 rfl rfl ?_
      refine mg_holdsWhat (pc := 28) C fl_RX6_40 dX6_heldOn_28 ?_
      refine r_iload_n (pc := 31) C 1 dX6_heldOn_31 rfl rfl ?_
      refine al_holdsWhat (pc := 32) C g (rfl) (by omega) dX6_heldOn_32 (σ 18 g) rfl ?_
      exact r_iret (pc := 33) C hr hlk dX6_heldOn_33 rfl (by simp [hoF, *]) rfl
    · skip
      have c_2 := bI_0.mp c_2
      refine r_iconst (pc := 23) C 0 dX6_heldOn_23 (by decide) ?_
      refine r_goto (pc := 24) C 33 dX6_heldOn_24 (by decide) ?_
      exact r_iret (pc := 33) C hr hlk dX6_heldOn_33 rfl (by simp [hoF, *]) rfl
theorem t_X6_heldOn' (l : Launch) (ad : Nat → Nat) (D : va_G) (cs : Nat → ClassId) (h : Nat → Nat) (σ : Nat → Nat → Int32) (pre post : va_W) (f0_ : Nat → Int32) (e0_ : σ 0 = f0_) (f18_ : Nat → Int32) (e18_ : σ 18 = f18_) (f19_ : Nat → Int32) (e19_ : σ 19 = f19_) (n : Nat) (g : Nat) (hN : f0_ 0 = nI n) (hn : n ≤ 8) (hg : g < 4) : CTi l yX6_heldOn cX6_heldOn 2 .int ({ frames := 1, cells := 0, slots := 0, locals := 21 }) ad D (tysW cs) (pre ++ (wM cs h σ ++ post)) [.ref (h 0), .int (nI g)] (hoF n (f18_) (f19_) g) (pre ++ (wM cs h σ ++ post)) := by
  subst e0_; subst e18_; subst e19_
  exact t_X6_heldOn l ad D cs h σ pre post n g hN hn hg
theorem dX6_act_0 : decode cX6_act 0 = .ok (.aload_n 0, 1) := by decide +kernel
theorem dX6_act_1 : decode cX6_act 1 = .ok (.iconst 0, 1) := by decide +kernel
theorem dX6_act_2 : decode cX6_act 2 = .ok (.putfield 287, 3) := by decide +kernel
theorem dX6_act_5 : decode cX6_act 5 = .ok (.iload_n 1, 1) := by decide +kernel
theorem dX6_act_6 : decode cX6_act 6 = .ok (.invokestatic 274, 3) := by decide +kernel
theorem dX6_act_9 : decode cX6_act 9 = .ok (.ifCond .eq 24, 3) := by decide +kernel
theorem dX6_act_12 : decode cX6_act 12 = .ok (.iload_n 2, 1) := by decide +kernel
theorem dX6_act_13 : decode cX6_act 13 = .ok (.i2l, 1) := by decide +kernel
theorem dX6_act_14 : decode cX6_act 14 = .ok (.lconst 0, 1) := by decide +kernel
theorem dX6_act_15 : decode cX6_act 15 = .ok (.ldc2_w 144, 3) := by decide +kernel
theorem dX6_act_18 : decode cX6_act 18 = .ok (.invokestatic 57, 3) := by decide +kernel
theorem dX6_act_21 : decode cX6_act 21 = .ok (.ifCond .eq 12, 3) := by decide +kernel
theorem dX6_act_24 : decode cX6_act 24 = .ok (.aload_n 0, 1) := by decide +kernel
theorem dX6_act_25 : decode cX6_act 25 = .ok (.iload_n 1, 1) := by decide +kernel
theorem dX6_act_26 : decode cX6_act 26 = .ok (.invokevirtual 281, 3) := by decide +kernel
theorem dX6_act_29 : decode cX6_act 29 = .ok (.iconst 1, 1) := by decide +kernel
theorem dX6_act_30 : decode cX6_act 30 = .ok (.if_icmp .eq 5, 3) := by decide +kernel
theorem dX6_act_33 : decode cX6_act 33 = .ok (.iconst 0, 1) := by decide +kernel
theorem dX6_act_34 : decode cX6_act 34 = .ok (.ireturn, 1) := by decide +kernel
theorem dX6_act_35 : decode cX6_act 35 = .ok (.aload_n 0, 1) := by decide +kernel
theorem dX6_act_36 : decode cX6_act 36 = .ok (.iconst 0, 1) := by decide +kernel
theorem dX6_act_37 : decode cX6_act 37 = .ok (.putfield 314, 3) := by decide +kernel
theorem dX6_act_40 : decode cX6_act 40 = .ok (.aload_n 0, 1) := by decide +kernel
theorem dX6_act_41 : decode cX6_act 41 = .ok (.aload_n 0, 1) := by decide +kernel
theorem dX6_act_42 : decode cX6_act 42 = .ok (.aload_n 0, 1) := by decide +kernel
theorem dX6_act_43 : decode cX6_act 43 = .ok (.getfield 43, 3) := by decide +kernel
theorem dX6_act_46 : decode cX6_act 46 = .ok (.iload_n 1, 1) := by decide +kernel
theorem dX6_act_47 : decode cX6_act 47 = .ok (.iaload, 1) := by decide +kernel
theorem dX6_act_48 : decode cX6_act 48 = .ok (.iconst 0, 1) := by decide +kernel
theorem dX6_act_49 : decode cX6_act 49 = .ok (.invokevirtual 156, 3) := by decide +kernel
theorem dX6_act_52 : decode cX6_act 52 = .ok (.putfield 299, 3) := by decide +kernel
theorem dX6_act_55 : decode cX6_act 55 = .ok (.aload_n 0, 1) := by decide +kernel
theorem dX6_act_56 : decode cX6_act 56 = .ok (.aload_n 0, 1) := by decide +kernel
theorem dX6_act_57 : decode cX6_act 57 = .ok (.getfield 43, 3) := by decide +kernel
theorem dX6_act_60 : decode cX6_act 60 = .ok (.iload_n 1, 1) := by decide +kernel
theorem dX6_act_61 : decode cX6_act 61 = .ok (.iaload, 1) := by decide +kernel
theorem dX6_act_62 : decode cX6_act 62 = .ok (.putfield 293, 3) := by decide +kernel
theorem dX6_act_65 : decode cX6_act 65 = .ok (.aload_n 0, 1) := by decide +kernel
theorem dX6_act_66 : decode cX6_act 66 = .ok (.aload_n 0, 1) := by decide +kernel
theorem dX6_act_67 : decode cX6_act 67 = .ok (.aload_n 0, 1) := by decide +kernel
theorem dX6_act_68 : decode cX6_act 68 = .ok (.getfield 43, 3) := by decide +kernel
theorem dX6_act_71 : decode cX6_act 71 = .ok (.iload_n 1, 1) := by decide +kernel
theorem dX6_act_72 : decode cX6_act 72 = .ok (.iaload, 1) := by decide +kernel
theorem dX6_act_73 : decode cX6_act 73 = .ok (.iconst 1, 1) := by decide +kernel
theorem dX6_act_74 : decode cX6_act 74 = .ok (.invokevirtual 156, 3) := by decide +kernel
theorem dX6_act_77 : decode cX6_act 77 = .ok (.putfield 305, 3) := by decide +kernel
theorem dX6_act_80 : decode cX6_act 80 = .ok (.iload_n 2, 1) := by decide +kernel
theorem dX6_act_81 : decode cX6_act 81 = .ok (.ifCond .ne 11, 3) := by decide +kernel
theorem dX6_act_84 : decode cX6_act 84 = .ok (.aload_n 0, 1) := by decide +kernel
theorem dX6_act_85 : decode cX6_act 85 = .ok (.iload_n 3, 1) := by decide +kernel
theorem dX6_act_86 : decode cX6_act 86 = .ok (.invokevirtual 308, 3) := by decide +kernel
theorem dX6_act_89 : decode cX6_act 89 = .ok (.goto 34, 3) := by decide +kernel
theorem dX6_act_92 : decode cX6_act 92 = .ok (.iload_n 2, 1) := by decide +kernel
theorem dX6_act_93 : decode cX6_act 93 = .ok (.iconst 1, 1) := by decide +kernel
theorem dX6_act_94 : decode cX6_act 94 = .ok (.if_icmp .ne 11, 3) := by decide +kernel
theorem dX6_act_97 : decode cX6_act 97 = .ok (.aload_n 0, 1) := by decide +kernel
theorem dX6_act_98 : decode cX6_act 98 = .ok (.iload_n 3, 1) := by decide +kernel
theorem dX6_act_99 : decode cX6_act 99 = .ok (.invokevirtual 320, 3) := by decide +kernel
theorem dX6_act_102 : decode cX6_act 102 = .ok (.goto 21, 3) := by decide +kernel
theorem dX6_act_105 : decode cX6_act 105 = .ok (.iload_n 2, 1) := by decide +kernel
theorem dX6_act_106 : decode cX6_act 106 = .ok (.iconst 2, 1) := by decide +kernel
theorem dX6_act_107 : decode cX6_act 107 = .ok (.if_icmp .ne 11, 3) := by decide +kernel
theorem dX6_act_110 : decode cX6_act 110 = .ok (.aload_n 0, 1) := by decide +kernel
theorem dX6_act_111 : decode cX6_act 111 = .ok (.iload_n 3, 1) := by decide +kernel
theorem dX6_act_112 : decode cX6_act 112 = .ok (.invokevirtual 326, 3) := by decide +kernel
theorem dX6_act_115 : decode cX6_act 115 = .ok (.goto 8, 3) := by decide +kernel
theorem dX6_act_118 : decode cX6_act 118 = .ok (.aload_n 0, 1) := by decide +kernel
theorem dX6_act_119 : decode cX6_act 119 = .ok (.iload_n 3, 1) := by decide +kernel
theorem dX6_act_120 : decode cX6_act 120 = .ok (.invokevirtual 329, 3) := by decide +kernel
theorem dX6_act_123 : decode cX6_act 123 = .ok (.istore 4, 2) := by decide +kernel
theorem dX6_act_125 : decode cX6_act 125 = .ok (.aload_n 0, 1) := by decide +kernel
theorem dX6_act_126 : decode cX6_act 126 = .ok (.getfield 314, 3) := by decide +kernel
theorem dX6_act_129 : decode cX6_act 129 = .ok (.ifCond .eq 8, 3) := by decide +kernel
theorem dX6_act_132 : decode cX6_act 132 = .ok (.bipush (-15), 2) := by decide +kernel
theorem dX6_act_134 : decode cX6_act 134 = .ok (.goto 5, 3) := by decide +kernel
theorem dX6_act_137 : decode cX6_act 137 = .ok (.iload 4, 2) := by decide +kernel
theorem dX6_act_139 : decode cX6_act 139 = .ok (.ireturn, 1) := by decide +kernel
set_option maxHeartbeats 400000 in
set_option maxRecDepth 20000 in
theorem t_X6_act (l : Launch) (ad : Nat → Nat) (D : va_G) (cs : Nat → ClassId) (h : Nat → Nat) (σ : Nat → Nat → Int32) (pre post : va_W) (n : Nat) (g t x : Int32) (hN : σ 0 0 = nI n) (hn : n ≤ 8) : CTi l yX6_act cX6_act 5 .int ({ frames := 8, cells := 0, slots := 0, locals := 170 }) ad D (tysW cs) (pre ++ (wM cs h σ ++ post)) [.ref (h 0), .int g, .int t, .int x] (gateI (inB g 0 3 && (inB t 0 3 && decide (hoF n (σ 18) (σ 19) g.toNatClampNeg = 1))) (if acD t (σ 0 (8 + 5 * (σ 19 g.toNatClampNeg).toNatClampNeg)) (σ 19 g.toNatClampNeg) (σ 0 (8 + 5 * (σ 19 g.toNatClampNeg).toNatClampNeg + 1)) = 0 then acV t (σ 0 (8 + 5 * (σ 19 g.toNatClampNeg).toNatClampNeg)) (σ 19 g.toNatClampNeg) (σ 0 (8 + 5 * (σ 19 g.toNatClampNeg).toNatClampNeg + 1)) x else -15) 0) (pre ++ (wM cs h (su (su (su (su (su (su σ 21 (gateF (inB g 0 3 && (inB t 0 3 && decide (hoF n (σ 18) (σ 19) g.toNatClampNeg = 1))) (trB (σ 21) 0 (acC t (σ 0 (8 + 5 * (σ 19 g.toNatClampNeg).toNatClampNeg)) (σ 19 g.toNatClampNeg) (σ 0 (8 + 5 * (σ 19 g.toNatClampNeg).toNatClampNeg + 1)))) (σ 21))) 22 (gateF (inB g 0 3 && (inB t 0 3 && decide (hoF n (σ 18) (σ 19) g.toNatClampNeg = 1))) (fun _ => nI (trR 0 (acC t (σ 0 (8 + 5 * (σ 19 g.toNatClampNeg).toNatClampNeg)) (σ 19 g.toNatClampNeg) (σ 0 (8 + 5 * (σ 19 g.toNatClampNeg).toNatClampNeg + 1))))) (fun _ => 0))) 23 (gateF (inB g 0 3 && (inB t 0 3 && decide (hoF n (σ 18) (σ 19) g.toNatClampNeg = 1))) (fun _ => σ 0 (8 + 5 * (σ 19 g.toNatClampNeg).toNatClampNeg)) (σ 23))) 24 (gateF (inB g 0 3 && (inB t 0 3 && decide (hoF n (σ 18) (σ 19) g.toNatClampNeg = 1))) (fun _ => σ 19 g.toNatClampNeg) (σ 24))) 25 (gateF (inB g 0 3 && (inB t 0 3 && decide (hoF n (σ 18) (σ 19) g.toNatClampNeg = 1))) (fun _ => σ 0 (8 + 5 * (σ 19 g.toNatClampNeg).toNatClampNeg + 1)) (σ 25))) 26 (gateF (inB g 0 3 && (inB t 0 3 && decide (hoF n (σ 18) (σ 19) g.toNatClampNeg = 1))) (fun _ => acD t (σ 0 (8 + 5 * (σ 19 g.toNatClampNeg).toNatClampNeg)) (σ 19 g.toNatClampNeg) (σ 0 (8 + 5 * (σ 19 g.toNatClampNeg).toNatClampNeg + 1))) (σ 26))) ++ post)) := by
  refine CTi.of (lv0 := [(0, .ref (h 0)), (1, .int g), (2, .int t), (3, .int x)]) (by decide) rfl (Nat.le_of_ble_eq_true rfl) (fun p e s m args below meth c A C hr hlk => ?_)
  have C : Cx p s m args c cX6_act 5 RX6 ad D (tysW cs) A := C
  refine r_aload_n (pc := 0) C 0 dX6_act_0 rfl rfl ?_
  refine r_iconst (pc := 1) C 0 dX6_act_1 (by decide) ?_
  refine mp_ran (pc := 2) C fl_RX6_287 dX6_act_2 ?_
  refine r_iload_n (pc := 5) C 1 dX6_act_5 rfl rfl ?_
  refine rc_Si (pc := 6) C (t_X6_isShelf l ad D (tysW cs) (wM cs h (su σ 22 (fun _ => 0))) pre post  g ) ms_X6_isShelf ml_RX6_274 rfl ⟨Nat.le_of_ble_eq_true rfl, Nat.le_of_ble_eq_true rfl⟩ ⟨rfl, rfl⟩ rfl rfl rfl (Nat.le_of_ble_eq_true rfl) dX6_act_6 ?_
  refine r_if_eq (pc := 9) C 33 dX6_act_9 (by decide) (fun c_1 => ?_) (fun c_1 => ?_)
  · skip
    have c_1 := bI_0.mp c_1
    refine r_iconst (pc := 33) C 0 dX6_act_33 (by decide) ?_
    exact r_iret (pc := 34) C hr hlk dX6_act_34 rfl (by first | rfl | (simp [gateI, gateF, acD, acV, acC, *]; done) | simp_all [gateI, gateF, acD, acV, acC]) (by rw [show (gateF (inB g 0 3 && (inB t 0 3 && decide (hoF n (σ 18) (σ 19) g.toNatClampNeg = 1))) (trB (σ 21) 0 (acC t (σ 0 (8 + 5 * (σ 19 g.toNatClampNeg).toNatClampNeg)) (σ 19 g.toNatClampNeg) (σ 0 (8 + 5 * (σ 19 g.toNatClampNeg).toNatClampNeg + 1)))) (σ 21) : Nat → Int32) = σ 21 from (by first | rfl | (simp [gateI, gateF, acD, acV, acC, *]; done) | simp_all [gateI, gateF, acD, acV, acC]), show (gateF (inB g 0 3 && (inB t 0 3 && decide (hoF n (σ 18) (σ 19) g.toNatClampNeg = 1))) (fun _ => nI (trR 0 (acC t (σ 0 (8 + 5 * (σ 19 g.toNatClampNeg).toNatClampNeg)) (σ 19 g.toNatClampNeg) (σ 0 (8 + 5 * (σ 19 g.toNatClampNeg).toNatClampNeg + 1))))) (fun _ => 0) : Nat → Int32) = fun _ => 0 from (by first | rfl | (simp [gateI, gateF, acD, acV, acC, *]; done) | simp_all [gateI, gateF, acD, acV, acC]), show (gateF (inB g 0 3 && (inB t 0 3 && decide (hoF n (σ 18) (σ 19) g.toNatClampNeg = 1))) (fun _ => σ 0 (8 + 5 * (σ 19 g.toNatClampNeg).toNatClampNeg)) (σ 23) : Nat → Int32) = σ 23 from (by first | rfl | (simp [gateI, gateF, acD, acV, acC, *]; done) | simp_all [gateI, gateF, acD, acV, acC]), show (gateF (inB g 0 3 && (inB t 0 3 && decide (hoF n (σ 18) (σ 19) g.toNatClampNeg = 1))) (fun _ => σ 19 g.toNatClampNeg) (σ 24) : Nat → Int32) = σ 24 from (by first | rfl | (simp [gateI, gateF, acD, acV, acC, *]; done) | simp_all [gateI, gateF, acD, acV, acC]), show (gateF (inB g 0 3 && (inB t 0 3 && decide (hoF n (σ 18) (σ 19) g.toNatClampNeg = 1))) (fun _ => σ 0 (8 + 5 * (σ 19 g.toNatClampNeg).toNatClampNeg + 1)) (σ 25) : Nat → Int32) = σ 25 from (by first | rfl | (simp [gateI, gateF, acD, acV, acC, *]; done) | simp_all [gateI, gateF, acD, acV, acC]), show (gateF (inB g 0 3 && (inB t 0 3 && decide (hoF n (σ 18) (σ 19) g.toNatClampNeg = 1))) (fun _ => acD t (σ 0 (8 + 5 * (σ 19 g.toNatClampNeg).toNatClampNeg)) (σ 19 g.toNatClampNeg) (σ 0 (8 + 5 * (σ 19 g.toNatClampNeg).toNatClampNeg + 1))) (σ 26) : Nat → Int32) = σ 26 from (by first | rfl | (simp [gateI, gateF, acD, acV, acC, *]; done) | simp_all [gateI, gateF, acD, acV, acC])] <;> rfl)
  · skip
    have c_1 := bI_n.mp c_1
    obtain ⟨f, l_f, h_f, rfl⟩ := rng_nat 0 3 (by decide) (by decide) c_1
    have e_f : (nI f).toNatClampNeg = f := nI_clamp (by omega)
    refine r_iload_n (pc := 12) C 2 dX6_act_12 rfl rfl ?_
    refine r_i2l (pc := 13) C dX6_act_13 ?_
    refine r_lconst (pc := 14) C 0 dX6_act_14 (by decide) ?_
    refine r_ldc2 (pc := 15) C dX6_act_15 cn_RX6_144 ?_
    refine rc_Si (pc := 18) C (t_X6_isIn l ad D (tysW cs) (wM cs h (su σ 22 (fun _ => 0))) pre post  t (0 : Int32) (3 : Int32) ) ms_X6_isIn ml_RX6_57 rfl ⟨Nat.le_of_ble_eq_true rfl, Nat.le_of_ble_eq_true rfl⟩ ⟨rfl, rfl⟩ rfl rfl rfl (Nat.le_of_ble_eq_true rfl) dX6_act_18 ?_
    refine r_if_eq (pc := 21) C 33 dX6_act_21 (by decide) (fun c_2 => ?_) (fun c_2 => ?_)
    · skip
      have c_2 := bI_0.mp c_2
      refine r_iconst (pc := 33) C 0 dX6_act_33 (by decide) ?_
      exact r_iret (pc := 34) C hr hlk dX6_act_34 rfl (by first | rfl | (simp [gateI, gateF, acD, acV, acC, *]; done) | simp_all [gateI, gateF, acD, acV, acC]) (by rw [show (gateF (inB (nI f) 0 3 && (inB t 0 3 && decide (hoF n (σ 18) (σ 19) (nI f).toNatClampNeg = 1))) (trB (σ 21) 0 (acC t (σ 0 (8 + 5 * (σ 19 (nI f).toNatClampNeg).toNatClampNeg)) (σ 19 (nI f).toNatClampNeg) (σ 0 (8 + 5 * (σ 19 (nI f).toNatClampNeg).toNatClampNeg + 1)))) (σ 21) : Nat → Int32) = σ 21 from (by first | rfl | (simp [gateI, gateF, acD, acV, acC, *]; done) | simp_all [gateI, gateF, acD, acV, acC]), show (gateF (inB (nI f) 0 3 && (inB t 0 3 && decide (hoF n (σ 18) (σ 19) (nI f).toNatClampNeg = 1))) (fun _ => nI (trR 0 (acC t (σ 0 (8 + 5 * (σ 19 (nI f).toNatClampNeg).toNatClampNeg)) (σ 19 (nI f).toNatClampNeg) (σ 0 (8 + 5 * (σ 19 (nI f).toNatClampNeg).toNatClampNeg + 1))))) (fun _ => 0) : Nat → Int32) = fun _ => 0 from (by first | rfl | (simp [gateI, gateF, acD, acV, acC, *]; done) | simp_all [gateI, gateF, acD, acV, acC]), show (gateF (inB (nI f) 0 3 && (inB t 0 3 && decide (hoF n (σ 18) (σ 19) (nI f).toNatClampNeg = 1))) (fun _ => σ 0 (8 + 5 * (σ 19 (nI f).toNatClampNeg).toNatClampNeg)) (σ 23) : Nat → Int32) = σ 23 from (by first | rfl | (simp [gateI, gateF, acD, acV, acC, *]; done) | simp_all [gateI, gateF, acD, acV, acC]), show (gateF (inB (nI f) 0 3 && (inB t 0 3 && decide (hoF n (σ 18) (σ 19) (nI f).toNatClampNeg = 1))) (fun _ => σ 19 (nI f).toNatClampNeg) (σ 24) : Nat → Int32) = σ 24 from (by first | rfl | (simp [gateI, gateF, acD, acV, acC, *]; done) | simp_all [gateI, gateF, acD, acV, acC]), show (gateF (inB (nI f) 0 3 && (inB t 0 3 && decide (hoF n (σ 18) (σ 19) (nI f).toNatClampNeg = 1))) (fun _ => σ 0 (8 + 5 * (σ 19 (nI f).toNatClampNeg).toNatClampNeg + 1)) (σ 25) : Nat → Int32) = σ 25 from (by first | rfl | (simp [gateI, gateF, acD, acV, acC, *]; done) | simp_all [gateI, gateF, acD, acV, acC]), show (gateF (inB (nI f) 0 3 && (inB t 0 3 && decide (hoF n (σ 18) (σ 19) (nI f).toNatClampNeg = 1))) (fun _ => acD t (σ 0 (8 + 5 * (σ 19 (nI f).toNatClampNeg).toNatClampNeg)) (σ 19 (nI f).toNatClampNeg) (σ 0 (8 + 5 * (σ 19 (nI f).toNatClampNeg).toNatClampNeg + 1))) (σ 26) : Nat → Int32) = σ 26 from (by first | rfl | (simp [gateI, gateF, acD, acV, acC, *]; done) | simp_all [gateI, gateF, acD, acV, acC])] <;> rfl)
    · skip
      have c_2 := bI_n.mp c_2
      refine r_aload_n (pc := 24) C 0 dX6_act_24 rfl rfl ?_
      refine r_iload_n (pc := 25) C 1 dX6_act_25 rfl rfl ?_
      refine rc_Vi (pc := 26) C (t_X6_heldOn' l ad D cs h (su σ 22 (fun _ => 0)) pre post (σ 0) ((su_nn (by decide))) (σ 18) ((su_nn (by decide))) (σ 19) ((su_nn (by decide))) n f hN hn (by omega)) mv_X6_heldOn ml_RX6_281 rfl ⟨Nat.le_of_ble_eq_true rfl, Nat.le_of_ble_eq_true rfl⟩ ⟨rfl, rfl⟩ (q0 := 0) rfl rfl rfl rfl rfl rfl (Nat.le_of_ble_eq_true rfl) dX6_act_26 ?_
      refine r_iconst (pc := 29) C 1 dX6_act_29 (by decide) ?_
      refine r_icmp_eq (pc := 30) C 35 dX6_act_30 (by decide) (fun c_3 => ?_) (fun c_3 => ?_)
      · skip
        obtain ⟨j, h_j, e_q⟩ := one_nat (by omega) (ho_1 c_3)
        have e_j : (nI j).toNatClampNeg = j := nI_clamp (by omega)
        refine r_aload_n (pc := 35) C 0 dX6_act_35 rfl rfl ?_
        refine r_iconst (pc := 36) C 0 dX6_act_36 (by decide) ?_
        refine mp_isParted (pc := 37) C fl_RX6_314 dX6_act_37 rfl rfl ?_
        refine r_aload_n (pc := 40) C 0 dX6_act_40 rfl rfl ?_
        refine r_aload_n (pc := 41) C 0 dX6_act_41 rfl rfl ?_
        refine r_aload_n (pc := 42) C 0 dX6_act_42 rfl rfl ?_
        refine mg_holdsWhich (pc := 43) C fl_RX6_43 dX6_act_43 ?_
        refine r_iload_n (pc := 46) C 1 dX6_act_46 rfl rfl ?_
        refine al_holdsWhich (pc := 47) C f (rfl) (by omega) dX6_act_47 (σ 19 f) (congrFun (((su_nn (by decide)).trans (su_nn (by decide)))) _) ?_
        refine r_eqi (y := nI j) (e_q) ?_
        refine r_iconst (pc := 48) C 0 dX6_act_48 (by decide) ?_
        refine rc_Vi (pc := 49) C (t_X6_its' l ad D cs h (su (su σ 22 (fun _ => 0)) 26 (fun _ => 0)) pre post (σ 0) (((su_nn (by decide)).trans (su_nn (by decide)))) j 0 (by omega) (by omega)) mv_X6_its ml_RX6_156 rfl ⟨Nat.le_of_ble_eq_true rfl, Nat.le_of_ble_eq_true rfl⟩ ⟨rfl, rfl⟩ (q0 := 0) rfl rfl rfl rfl rfl rfl (Nat.le_of_ble_eq_true rfl) dX6_act_49 ?_
        refine r_eqi (y := σ 0 (8 + 5 * j)) rfl ?_
        refine mp_actKind (pc := 52) C fl_RX6_299 dX6_act_52 ?_
        refine r_blk (blk' := wM cs h (su (su (su σ 22 (fun _ => 0)) 23 (fun _ => σ 0 (8 + 5 * j))) 26 (fun _ => 0))) (congrArg (wM cs h) (by rw [su_cm (k := 26) (j := 23) (by decide)])) ?_
        refine r_aload_n (pc := 55) C 0 dX6_act_55 rfl rfl ?_
        refine r_aload_n (pc := 56) C 0 dX6_act_56 rfl rfl ?_
        refine mg_holdsWhich (pc := 57) C fl_RX6_43 dX6_act_57 ?_
        refine r_iload_n (pc := 60) C 1 dX6_act_60 rfl rfl ?_
        refine al_holdsWhich (pc := 61) C f (rfl) (by omega) dX6_act_61 (σ 19 f) (congrFun ((((su_nn (by decide)).trans (su_nn (by decide))).trans (su_nn (by decide)))) _) ?_
        refine r_eqi (y := nI j) (e_q) ?_
        refine mp_actN (pc := 62) C fl_RX6_293 dX6_act_62 ?_
        refine r_blk (blk' := wM cs h (su (su (su (su σ 22 (fun _ => 0)) 23 (fun _ => σ 0 (8 + 5 * j))) 24 (fun _ => nI j)) 26 (fun _ => 0))) (congrArg (wM cs h) (by rw [su_cm (k := 26) (j := 24) (by decide)])) ?_
        refine r_aload_n (pc := 65) C 0 dX6_act_65 rfl rfl ?_
        refine r_aload_n (pc := 66) C 0 dX6_act_66 rfl rfl ?_
        refine r_aload_n (pc := 67) C 0 dX6_act_67 rfl rfl ?_
        refine mg_holdsWhich (pc := 68) C fl_RX6_43 dX6_act_68 ?_
        refine r_iload_n (pc := 71) C 1 dX6_act_71 rfl rfl ?_
        refine al_holdsWhich (pc := 72) C f (rfl) (by omega) dX6_act_72 (σ 19 f) (congrFun (((((su_nn (by decide)).trans (su_nn (by decide))).trans (su_nn (by decide))).trans (su_nn (by decide)))) _) ?_
        refine r_eqi (y := nI j) (e_q) ?_
        refine r_iconst (pc := 73) C 1 dX6_act_73 (by decide) ?_
        refine rc_Vi (pc := 74) C (t_X6_its' l ad D cs h (su (su (su (su σ 22 (fun _ => 0)) 23 (fun _ => σ 0 (8 + 5 * j))) 24 (fun _ => nI j)) 26 (fun _ => 0)) pre post (σ 0) (((((su_nn (by decide)).trans (su_nn (by decide))).trans (su_nn (by decide))).trans (su_nn (by decide)))) j 1 (by omega) (by omega)) mv_X6_its ml_RX6_156 rfl ⟨Nat.le_of_ble_eq_true rfl, Nat.le_of_ble_eq_true rfl⟩ ⟨rfl, rfl⟩ (q0 := 0) rfl rfl rfl rfl rfl rfl (Nat.le_of_ble_eq_true rfl) dX6_act_74 ?_
        refine mp_actA (pc := 77) C fl_RX6_305 dX6_act_77 ?_
        refine r_blk (blk' := wM cs h (su (su (su (su (su σ 22 (fun _ => 0)) 23 (fun _ => σ 0 (8 + 5 * j))) 24 (fun _ => nI j)) 25 (fun _ => σ 0 (8 + 5 * j + 1))) 26 (fun _ => 0))) (congrArg (wM cs h) (by rw [su_cm (k := 26) (j := 25) (by decide)])) ?_
        refine r_iload_n (pc := 80) C 2 dX6_act_80 rfl rfl ?_
        refine r_if_ne (pc := 81) C 92 dX6_act_81 (by decide) (fun c_4 => ?_) (fun c_4 => ?_)
        · skip
          refine r_iload_n (pc := 92) C 2 dX6_act_92 rfl rfl ?_
          refine r_iconst (pc := 93) C 1 dX6_act_93 (by decide) ?_
          refine r_icmp_ne (pc := 94) C 105 dX6_act_94 (by decide) (fun c_5 => ?_) (fun c_5 => ?_)
          · skip
            refine r_iload_n (pc := 105) C 2 dX6_act_105 rfl rfl ?_
            refine r_iconst (pc := 106) C 2 dX6_act_106 (by decide) ?_
            refine r_icmp_ne (pc := 107) C 118 dX6_act_107 (by decide) (fun c_6 => ?_) (fun c_6 => ?_)
            · skip
              refine r_aload_n (pc := 118) C 0 dX6_act_118 rfl rfl ?_
              refine r_iload_n (pc := 119) C 3 dX6_act_119 rfl rfl ?_
              refine rc_Vi (pc := 120) C (t_X6_turns' l ad D cs h (su (su (su (su (su σ 22 (fun _ => 0)) 23 (fun _ => σ 0 (8 + 5 * j))) 24 (fun _ => nI j)) 25 (fun _ => σ 0 (8 + 5 * j + 1))) 26 (fun _ => 0)) pre post (σ 21) ((((((su_nn (by decide)).trans (su_nn (by decide))).trans (su_nn (by decide))).trans (su_nn (by decide))).trans (su_nn (by decide)))) (fun _ => 0) (((((su_nn (by decide)).trans (su_nn (by decide))).trans (su_nn (by decide))).trans (su_nn (by decide))).trans su_at) (fun _ => σ 0 (8 + 5 * j)) ((((su_nn (by decide)).trans (su_nn (by decide))).trans (su_nn (by decide))).trans su_at) (fun _ => nI j) (((su_nn (by decide)).trans (su_nn (by decide))).trans su_at) (fun _ => σ 0 (8 + 5 * j + 1)) ((su_nn (by decide)).trans su_at) (fun _ => 0) (su_at) 0 x rfl (by omega) rfl) mv_X6_turns ml_RX6_329 rfl ⟨Nat.le_of_ble_eq_true rfl, Nat.le_of_ble_eq_true rfl⟩ ⟨rfl, rfl⟩ (q0 := 0) rfl rfl rfl rfl rfl rfl (Nat.le_of_ble_eq_true rfl) dX6_act_120 ?_
              refine r_blk (blk' := wM cs h (su (su (su (su (su (su σ 21 (trB (σ 21) 0 (tuC ((fun _ => σ 0 (8 + 5 * j)) 0) ((fun _ => nI j) 0) ((fun _ => σ 0 (8 + 5 * j + 1)) 0)))) 22 (fun _ => nI (trR 0 (tuC ((fun _ => σ 0 (8 + 5 * j)) 0) ((fun _ => nI j) 0) ((fun _ => σ 0 (8 + 5 * j + 1)) 0))))) 23 (fun _ => σ 0 (8 + 5 * j))) 24 (fun _ => nI j)) 25 (fun _ => σ 0 (8 + 5 * j + 1))) 26 (fun _ => tuD ((fun _ => σ 0 (8 + 5 * j)) 0) ((fun _ => nI j) 0) ((fun _ => σ 0 (8 + 5 * j + 1)) 0)))) (congrArg (wM cs h) (by rw [su_cm (k := 26) (j := 21) (by decide), su_cm (k := 25) (j := 21) (by decide), su_cm (k := 24) (j := 21) (by decide), su_cm (k := 23) (j := 21) (by decide), su_cm (k := 22) (j := 21) (by decide), su_cm (k := 26) (j := 22) (by decide), su_cm (k := 25) (j := 22) (by decide), su_cm (k := 24) (j := 22) (by decide), su_cm (k := 23) (j := 22) (by decide), su_su (k := 22), su_su (k := 26)])) ?_
              refine r_istore (pc := 123) C [(4, .int (tuV ((fun _ => σ 0 (8 + 5 * j)) 0) ((fun _ => nI j) 0) ((fun _ => σ 0 (8 + 5 * j + 1)) 0) x)), (0, .ref (h 0)), (1, .int (nI f)), (2, .int t), (3, .int x)] dX6_act_123 (by decide) rfl ?_
              refine r_aload_n (pc := 125) C 1 dX6_act_125 rfl rfl ?_
              refine mg_isParted (pc := 126) C fl_RX6_314 dX6_act_126 (tuD ((fun _ => σ 0 (8 + 5 * j)) 0) ((fun _ => nI j) 0) ((fun _ => σ 0 (8 + 5 * j + 1)) 0)) (congrFun (su_at) 0) ?_
              refine r_if_eq (pc := 129) C 137 dX6_act_129 (by decide) (fun c_7 => ?_) (fun c_7 => ?_)
              · skip
                refine r_iload (pc := 137) C 0 dX6_act_137 rfl ?_
                exact r_iret (pc := 139) C hr hlk dX6_act_139 rfl (by first | rfl | (simp [gateI, gateF, acD, acV, acC, *]; done) | simp_all [gateI, gateF, acD, acV, acC]) (by rw [show (gateF (inB (nI f) 0 3 && (inB t 0 3 && decide (hoF n (σ 18) (σ 19) (nI f).toNatClampNeg = 1))) (trB (σ 21) 0 (acC t (σ 0 (8 + 5 * (σ 19 (nI f).toNatClampNeg).toNatClampNeg)) (σ 19 (nI f).toNatClampNeg) (σ 0 (8 + 5 * (σ 19 (nI f).toNatClampNeg).toNatClampNeg + 1)))) (σ 21) : Nat → Int32) = trB (σ 21) 0 (tuC ((fun _ => σ 0 (8 + 5 * j)) 0) ((fun _ => nI j) 0) ((fun _ => σ 0 (8 + 5 * j + 1)) 0)) from (by first | rfl | (simp [gateI, gateF, acD, acV, acC, *]; done) | simp_all [gateI, gateF, acD, acV, acC]), show (gateF (inB (nI f) 0 3 && (inB t 0 3 && decide (hoF n (σ 18) (σ 19) (nI f).toNatClampNeg = 1))) (fun _ => nI (trR 0 (acC t (σ 0 (8 + 5 * (σ 19 (nI f).toNatClampNeg).toNatClampNeg)) (σ 19 (nI f).toNatClampNeg) (σ 0 (8 + 5 * (σ 19 (nI f).toNatClampNeg).toNatClampNeg + 1))))) (fun _ => 0) : Nat → Int32) = fun _ => nI (trR 0 (tuC ((fun _ => σ 0 (8 + 5 * j)) 0) ((fun _ => nI j) 0) ((fun _ => σ 0 (8 + 5 * j + 1)) 0))) from (by first | rfl | (simp [gateI, gateF, acD, acV, acC, *]; done) | simp_all [gateI, gateF, acD, acV, acC]), show (gateF (inB (nI f) 0 3 && (inB t 0 3 && decide (hoF n (σ 18) (σ 19) (nI f).toNatClampNeg = 1))) (fun _ => σ 0 (8 + 5 * (σ 19 (nI f).toNatClampNeg).toNatClampNeg)) (σ 23) : Nat → Int32) = fun _ => σ 0 (8 + 5 * j) from (by first | rfl | (simp [gateI, gateF, acD, acV, acC, *]; done) | simp_all [gateI, gateF, acD, acV, acC]), show (gateF (inB (nI f) 0 3 && (inB t 0 3 && decide (hoF n (σ 18) (σ 19) (nI f).toNatClampNeg = 1))) (fun _ => σ 19 (nI f).toNatClampNeg) (σ 24) : Nat → Int32) = fun _ => nI j from (by first | rfl | (simp [gateI, gateF, acD, acV, acC, *]; done) | simp_all [gateI, gateF, acD, acV, acC]), show (gateF (inB (nI f) 0 3 && (inB t 0 3 && decide (hoF n (σ 18) (σ 19) (nI f).toNatClampNeg = 1))) (fun _ => σ 0 (8 + 5 * (σ 19 (nI f).toNatClampNeg).toNatClampNeg + 1)) (σ 25) : Nat → Int32) = fun _ => σ 0 (8 + 5 * j + 1) from (by first | rfl | (simp [gateI, gateF, acD, acV, acC, *]; done) | simp_all [gateI, gateF, acD, acV, acC]), show (gateF (inB (nI f) 0 3 && (inB t 0 3 && decide (hoF n (σ 18) (σ 19) (nI f).toNatClampNeg = 1))) (fun _ => acD t (σ 0 (8 + 5 * (σ 19 (nI f).toNatClampNeg).toNatClampNeg)) (σ 19 (nI f).toNatClampNeg) (σ 0 (8 + 5 * (σ 19 (nI f).toNatClampNeg).toNatClampNeg + 1))) (σ 26) : Nat → Int32) = fun _ => tuD ((fun _ => σ 0 (8 + 5 * j)) 0) ((fun _ => nI j) 0) ((fun _ => σ 0 (8 + 5 * j + 1)) 0) from (by first | rfl | (simp [gateI, gateF, acD, acV, acC, *]; done) | simp_all [gateI, gateF, acD, acV, acC])] <;> rfl)
              · skip
                refine r_bipush (pc := 132) C (-15) dX6_act_132 (by decide) ?_
                refine r_goto (pc := 134) C 139 dX6_act_134 (by decide) ?_
                exact r_iret (pc := 139) C hr hlk dX6_act_139 rfl (by first | rfl | (simp [gateI, gateF, acD, acV, acC, *]; done) | simp_all [gateI, gateF, acD, acV, acC]) (by rw [show (gateF (inB (nI f) 0 3 && (inB t 0 3 && decide (hoF n (σ 18) (σ 19) (nI f).toNatClampNeg = 1))) (trB (σ 21) 0 (acC t (σ 0 (8 + 5 * (σ 19 (nI f).toNatClampNeg).toNatClampNeg)) (σ 19 (nI f).toNatClampNeg) (σ 0 (8 + 5 * (σ 19 (nI f).toNatClampNeg).toNatClampNeg + 1)))) (σ 21) : Nat → Int32) = trB (σ 21) 0 (tuC ((fun _ => σ 0 (8 + 5 * j)) 0) ((fun _ => nI j) 0) ((fun _ => σ 0 (8 + 5 * j + 1)) 0)) from (by first | rfl | (simp [gateI, gateF, acD, acV, acC, *]; done) | simp_all [gateI, gateF, acD, acV, acC]), show (gateF (inB (nI f) 0 3 && (inB t 0 3 && decide (hoF n (σ 18) (σ 19) (nI f).toNatClampNeg = 1))) (fun _ => nI (trR 0 (acC t (σ 0 (8 + 5 * (σ 19 (nI f).toNatClampNeg).toNatClampNeg)) (σ 19 (nI f).toNatClampNeg) (σ 0 (8 + 5 * (σ 19 (nI f).toNatClampNeg).toNatClampNeg + 1))))) (fun _ => 0) : Nat → Int32) = fun _ => nI (trR 0 (tuC ((fun _ => σ 0 (8 + 5 * j)) 0) ((fun _ => nI j) 0) ((fun _ => σ 0 (8 + 5 * j + 1)) 0))) from (by first | rfl | (simp [gateI, gateF, acD, acV, acC, *]; done) | simp_all [gateI, gateF, acD, acV, acC]), show (gateF (inB (nI f) 0 3 && (inB t 0 3 && decide (hoF n (σ 18) (σ 19) (nI f).toNatClampNeg = 1))) (fun _ => σ 0 (8 + 5 * (σ 19 (nI f).toNatClampNeg).toNatClampNeg)) (σ 23) : Nat → Int32) = fun _ => σ 0 (8 + 5 * j) from (by first | rfl | (simp [gateI, gateF, acD, acV, acC, *]; done) | simp_all [gateI, gateF, acD, acV, acC]), show (gateF (inB (nI f) 0 3 && (inB t 0 3 && decide (hoF n (σ 18) (σ 19) (nI f).toNatClampNeg = 1))) (fun _ => σ 19 (nI f).toNatClampNeg) (σ 24) : Nat → Int32) = fun _ => nI j from (by first | rfl | (simp [gateI, gateF, acD, acV, acC, *]; done) | simp_all [gateI, gateF, acD, acV, acC]), show (gateF (inB (nI f) 0 3 && (inB t 0 3 && decide (hoF n (σ 18) (σ 19) (nI f).toNatClampNeg = 1))) (fun _ => σ 0 (8 + 5 * (σ 19 (nI f).toNatClampNeg).toNatClampNeg + 1)) (σ 25) : Nat → Int32) = fun _ => σ 0 (8 + 5 * j + 1) from (by first | rfl | (simp [gateI, gateF, acD, acV, acC, *]; done) | simp_all [gateI, gateF, acD, acV, acC]), show (gateF (inB (nI f) 0 3 && (inB t 0 3 && decide (hoF n (σ 18) (σ 19) (nI f).toNatClampNeg = 1))) (fun _ => acD t (σ 0 (8 + 5 * (σ 19 (nI f).toNatClampNeg).toNatClampNeg)) (σ 19 (nI f).toNatClampNeg) (σ 0 (8 + 5 * (σ 19 (nI f).toNatClampNeg).toNatClampNeg + 1))) (σ 26) : Nat → Int32) = fun _ => tuD ((fun _ => σ 0 (8 + 5 * j)) 0) ((fun _ => nI j) 0) ((fun _ => σ 0 (8 + 5 * j + 1)) 0) from (by first | rfl | (simp [gateI, gateF, acD, acV, acC, *]; done) | simp_all [gateI, gateF, acD, acV, acC])] <;> rfl)
            · skip
              refine r_aload_n (pc := 110) C 0 dX6_act_110 rfl rfl ?_
              refine r_iload_n (pc := 111) C 3 dX6_act_111 rfl rfl ?_
              refine rc_Vi (pc := 112) C (t_X6_parts' l ad D cs h (su (su (su (su (su σ 22 (fun _ => 0)) 23 (fun _ => σ 0 (8 + 5 * j))) 24 (fun _ => nI j)) 25 (fun _ => σ 0 (8 + 5 * j + 1))) 26 (fun _ => 0)) pre post (σ 21) ((((((su_nn (by decide)).trans (su_nn (by decide))).trans (su_nn (by decide))).trans (su_nn (by decide))).trans (su_nn (by decide)))) (fun _ => 0) (((((su_nn (by decide)).trans (su_nn (by decide))).trans (su_nn (by decide))).trans (su_nn (by decide))).trans su_at) (fun _ => σ 0 (8 + 5 * j)) ((((su_nn (by decide)).trans (su_nn (by decide))).trans (su_nn (by decide))).trans su_at) (fun _ => nI j) (((su_nn (by decide)).trans (su_nn (by decide))).trans su_at) (fun _ => σ 0 (8 + 5 * j + 1)) ((su_nn (by decide)).trans su_at) (fun _ => 0) (su_at) 0 x rfl (by omega) rfl) mv_X6_parts ml_RX6_326 rfl ⟨Nat.le_of_ble_eq_true rfl, Nat.le_of_ble_eq_true rfl⟩ ⟨rfl, rfl⟩ (q0 := 0) rfl rfl rfl rfl rfl rfl (Nat.le_of_ble_eq_true rfl) dX6_act_112 ?_
              refine r_blk (blk' := wM cs h (su (su (su (su (su (su σ 21 (trB (σ 21) 0 (ptC ((fun _ => σ 0 (8 + 5 * j)) 0) ((fun _ => nI j) 0) ((fun _ => σ 0 (8 + 5 * j + 1)) 0)))) 22 (fun _ => nI (trR 0 (ptC ((fun _ => σ 0 (8 + 5 * j)) 0) ((fun _ => nI j) 0) ((fun _ => σ 0 (8 + 5 * j + 1)) 0))))) 23 (fun _ => σ 0 (8 + 5 * j))) 24 (fun _ => nI j)) 25 (fun _ => σ 0 (8 + 5 * j + 1))) 26 (fun _ => ptD ((fun _ => nI j) 0) ((fun _ => σ 0 (8 + 5 * j + 1)) 0)))) (congrArg (wM cs h) (by rw [su_cm (k := 26) (j := 21) (by decide), su_cm (k := 25) (j := 21) (by decide), su_cm (k := 24) (j := 21) (by decide), su_cm (k := 23) (j := 21) (by decide), su_cm (k := 22) (j := 21) (by decide), su_cm (k := 26) (j := 22) (by decide), su_cm (k := 25) (j := 22) (by decide), su_cm (k := 24) (j := 22) (by decide), su_cm (k := 23) (j := 22) (by decide), su_su (k := 22), su_su (k := 26)])) ?_
              refine r_goto (pc := 115) C 123 dX6_act_115 (by decide) ?_
              refine r_istore (pc := 123) C [(4, .int (ptV ((fun _ => σ 0 (8 + 5 * j)) 0) ((fun _ => nI j) 0) ((fun _ => σ 0 (8 + 5 * j + 1)) 0) x)), (0, .ref (h 0)), (1, .int (nI f)), (2, .int t), (3, .int x)] dX6_act_123 (by decide) rfl ?_
              refine r_aload_n (pc := 125) C 1 dX6_act_125 rfl rfl ?_
              refine mg_isParted (pc := 126) C fl_RX6_314 dX6_act_126 (ptD ((fun _ => nI j) 0) ((fun _ => σ 0 (8 + 5 * j + 1)) 0)) (congrFun (su_at) 0) ?_
              refine r_if_eq (pc := 129) C 137 dX6_act_129 (by decide) (fun c_8 => ?_) (fun c_8 => ?_)
              · skip
                refine r_iload (pc := 137) C 0 dX6_act_137 rfl ?_
                exact r_iret (pc := 139) C hr hlk dX6_act_139 rfl (by first | rfl | (simp [gateI, gateF, acD, acV, acC, *]; done) | simp_all [gateI, gateF, acD, acV, acC]) (by rw [show (gateF (inB (nI f) 0 3 && (inB t 0 3 && decide (hoF n (σ 18) (σ 19) (nI f).toNatClampNeg = 1))) (trB (σ 21) 0 (acC t (σ 0 (8 + 5 * (σ 19 (nI f).toNatClampNeg).toNatClampNeg)) (σ 19 (nI f).toNatClampNeg) (σ 0 (8 + 5 * (σ 19 (nI f).toNatClampNeg).toNatClampNeg + 1)))) (σ 21) : Nat → Int32) = trB (σ 21) 0 (ptC ((fun _ => σ 0 (8 + 5 * j)) 0) ((fun _ => nI j) 0) ((fun _ => σ 0 (8 + 5 * j + 1)) 0)) from (by first | rfl | (simp [gateI, gateF, acD, acV, acC, *]; done) | simp_all [gateI, gateF, acD, acV, acC]), show (gateF (inB (nI f) 0 3 && (inB t 0 3 && decide (hoF n (σ 18) (σ 19) (nI f).toNatClampNeg = 1))) (fun _ => nI (trR 0 (acC t (σ 0 (8 + 5 * (σ 19 (nI f).toNatClampNeg).toNatClampNeg)) (σ 19 (nI f).toNatClampNeg) (σ 0 (8 + 5 * (σ 19 (nI f).toNatClampNeg).toNatClampNeg + 1))))) (fun _ => 0) : Nat → Int32) = fun _ => nI (trR 0 (ptC ((fun _ => σ 0 (8 + 5 * j)) 0) ((fun _ => nI j) 0) ((fun _ => σ 0 (8 + 5 * j + 1)) 0))) from (by first | rfl | (simp [gateI, gateF, acD, acV, acC, *]; done) | simp_all [gateI, gateF, acD, acV, acC]), show (gateF (inB (nI f) 0 3 && (inB t 0 3 && decide (hoF n (σ 18) (σ 19) (nI f).toNatClampNeg = 1))) (fun _ => σ 0 (8 + 5 * (σ 19 (nI f).toNatClampNeg).toNatClampNeg)) (σ 23) : Nat → Int32) = fun _ => σ 0 (8 + 5 * j) from (by first | rfl | (simp [gateI, gateF, acD, acV, acC, *]; done) | simp_all [gateI, gateF, acD, acV, acC]), show (gateF (inB (nI f) 0 3 && (inB t 0 3 && decide (hoF n (σ 18) (σ 19) (nI f).toNatClampNeg = 1))) (fun _ => σ 19 (nI f).toNatClampNeg) (σ 24) : Nat → Int32) = fun _ => nI j from (by first | rfl | (simp [gateI, gateF, acD, acV, acC, *]; done) | simp_all [gateI, gateF, acD, acV, acC]), show (gateF (inB (nI f) 0 3 && (inB t 0 3 && decide (hoF n (σ 18) (σ 19) (nI f).toNatClampNeg = 1))) (fun _ => σ 0 (8 + 5 * (σ 19 (nI f).toNatClampNeg).toNatClampNeg + 1)) (σ 25) : Nat → Int32) = fun _ => σ 0 (8 + 5 * j + 1) from (by first | rfl | (simp [gateI, gateF, acD, acV, acC, *]; done) | simp_all [gateI, gateF, acD, acV, acC]), show (gateF (inB (nI f) 0 3 && (inB t 0 3 && decide (hoF n (σ 18) (σ 19) (nI f).toNatClampNeg = 1))) (fun _ => acD t (σ 0 (8 + 5 * (σ 19 (nI f).toNatClampNeg).toNatClampNeg)) (σ 19 (nI f).toNatClampNeg) (σ 0 (8 + 5 * (σ 19 (nI f).toNatClampNeg).toNatClampNeg + 1))) (σ 26) : Nat → Int32) = fun _ => ptD ((fun _ => nI j) 0) ((fun _ => σ 0 (8 + 5 * j + 1)) 0) from (by first | rfl | (simp [gateI, gateF, acD, acV, acC, *]; done) | simp_all [gateI, gateF, acD, acV, acC])] <;> rfl)
              · skip
                refine r_bipush (pc := 132) C (-15) dX6_act_132 (by decide) ?_
                refine r_goto (pc := 134) C 139 dX6_act_134 (by decide) ?_
                exact r_iret (pc := 139) C hr hlk dX6_act_139 rfl (by first | rfl | (simp [gateI, gateF, acD, acV, acC, *]; done) | simp_all [gateI, gateF, acD, acV, acC]) (by rw [show (gateF (inB (nI f) 0 3 && (inB t 0 3 && decide (hoF n (σ 18) (σ 19) (nI f).toNatClampNeg = 1))) (trB (σ 21) 0 (acC t (σ 0 (8 + 5 * (σ 19 (nI f).toNatClampNeg).toNatClampNeg)) (σ 19 (nI f).toNatClampNeg) (σ 0 (8 + 5 * (σ 19 (nI f).toNatClampNeg).toNatClampNeg + 1)))) (σ 21) : Nat → Int32) = trB (σ 21) 0 (ptC ((fun _ => σ 0 (8 + 5 * j)) 0) ((fun _ => nI j) 0) ((fun _ => σ 0 (8 + 5 * j + 1)) 0)) from (by first | rfl | (simp [gateI, gateF, acD, acV, acC, *]; done) | simp_all [gateI, gateF, acD, acV, acC]), show (gateF (inB (nI f) 0 3 && (inB t 0 3 && decide (hoF n (σ 18) (σ 19) (nI f).toNatClampNeg = 1))) (fun _ => nI (trR 0 (acC t (σ 0 (8 + 5 * (σ 19 (nI f).toNatClampNeg).toNatClampNeg)) (σ 19 (nI f).toNatClampNeg) (σ 0 (8 + 5 * (σ 19 (nI f).toNatClampNeg).toNatClampNeg + 1))))) (fun _ => 0) : Nat → Int32) = fun _ => nI (trR 0 (ptC ((fun _ => σ 0 (8 + 5 * j)) 0) ((fun _ => nI j) 0) ((fun _ => σ 0 (8 + 5 * j + 1)) 0))) from (by first | rfl | (simp [gateI, gateF, acD, acV, acC, *]; done) | simp_all [gateI, gateF, acD, acV, acC]), show (gateF (inB (nI f) 0 3 && (inB t 0 3 && decide (hoF n (σ 18) (σ 19) (nI f).toNatClampNeg = 1))) (fun _ => σ 0 (8 + 5 * (σ 19 (nI f).toNatClampNeg).toNatClampNeg)) (σ 23) : Nat → Int32) = fun _ => σ 0 (8 + 5 * j) from (by first | rfl | (simp [gateI, gateF, acD, acV, acC, *]; done) | simp_all [gateI, gateF, acD, acV, acC]), show (gateF (inB (nI f) 0 3 && (inB t 0 3 && decide (hoF n (σ 18) (σ 19) (nI f).toNatClampNeg = 1))) (fun _ => σ 19 (nI f).toNatClampNeg) (σ 24) : Nat → Int32) = fun _ => nI j from (by first | rfl | (simp [gateI, gateF, acD, acV, acC, *]; done) | simp_all [gateI, gateF, acD, acV, acC]), show (gateF (inB (nI f) 0 3 && (inB t 0 3 && decide (hoF n (σ 18) (σ 19) (nI f).toNatClampNeg = 1))) (fun _ => σ 0 (8 + 5 * (σ 19 (nI f).toNatClampNeg).toNatClampNeg + 1)) (σ 25) : Nat → Int32) = fun _ => σ 0 (8 + 5 * j + 1) from (by first | rfl | (simp [gateI, gateF, acD, acV, acC, *]; done) | simp_all [gateI, gateF, acD, acV, acC]), show (gateF (inB (nI f) 0 3 && (inB t 0 3 && decide (hoF n (σ 18) (σ 19) (nI f).toNatClampNeg = 1))) (fun _ => acD t (σ 0 (8 + 5 * (σ 19 (nI f).toNatClampNeg).toNatClampNeg)) (σ 19 (nI f).toNatClampNeg) (σ 0 (8 + 5 * (σ 19 (nI f).toNatClampNeg).toNatClampNeg + 1))) (σ 26) : Nat → Int32) = fun _ => ptD ((fun _ => nI j) 0) ((fun _ => σ 0 (8 + 5 * j + 1)) 0) from (by first | rfl | (simp [gateI, gateF, acD, acV, acC, *]; done) | simp_all [gateI, gateF, acD, acV, acC])] <;> rfl)
          · skip
            refine r_aload_n (pc := 97) C 0 dX6_act_97 rfl rfl ?_
            refine r_iload_n (pc := 98) C 3 dX6_act_98 rfl rfl ?_
            refine rc_Vi (pc := 99) C (t_X6_paysBy' l ad D cs h (su (su (su (su (su σ 22 (fun _ => 0)) 23 (fun _ => σ 0 (8 + 5 * j))) 24 (fun _ => nI j)) 25 (fun _ => σ 0 (8 + 5 * j + 1))) 26 (fun _ => 0)) pre post (σ 21) ((((((su_nn (by decide)).trans (su_nn (by decide))).trans (su_nn (by decide))).trans (su_nn (by decide))).trans (su_nn (by decide)))) (fun _ => 0) (((((su_nn (by decide)).trans (su_nn (by decide))).trans (su_nn (by decide))).trans (su_nn (by decide))).trans su_at) (fun _ => σ 0 (8 + 5 * j)) ((((su_nn (by decide)).trans (su_nn (by decide))).trans (su_nn (by decide))).trans su_at) (fun _ => nI j) (((su_nn (by decide)).trans (su_nn (by decide))).trans su_at) (fun _ => σ 0 (8 + 5 * j + 1)) ((su_nn (by decide)).trans su_at) 0 x rfl (by omega)) mv_X6_paysBy ml_RX6_320 rfl ⟨Nat.le_of_ble_eq_true rfl, Nat.le_of_ble_eq_true rfl⟩ ⟨rfl, rfl⟩ (q0 := 0) rfl rfl rfl rfl rfl rfl (Nat.le_of_ble_eq_true rfl) dX6_act_99 ?_
            refine r_blk (blk' := wM cs h (su (su (su (su (su (su σ 21 (trB (σ 21) 0 (paC ((fun _ => σ 0 (8 + 5 * j)) 0)))) 22 (fun _ => nI (trR 0 (paC ((fun _ => σ 0 (8 + 5 * j)) 0))))) 23 (fun _ => σ 0 (8 + 5 * j))) 24 (fun _ => nI j)) 25 (fun _ => σ 0 (8 + 5 * j + 1))) 26 (fun _ => 0))) (congrArg (wM cs h) (by rw [su_cm (k := 26) (j := 21) (by decide), su_cm (k := 25) (j := 21) (by decide), su_cm (k := 24) (j := 21) (by decide), su_cm (k := 23) (j := 21) (by decide), su_cm (k := 22) (j := 21) (by decide), su_cm (k := 26) (j := 22) (by decide), su_cm (k := 25) (j := 22) (by decide), su_cm (k := 24) (j := 22) (by decide), su_cm (k := 23) (j := 22) (by decide), su_su (k := 22)])) ?_
            refine r_goto (pc := 102) C 123 dX6_act_102 (by decide) ?_
            refine r_istore (pc := 123) C [(4, .int (paV ((fun _ => σ 0 (8 + 5 * j)) 0) ((fun _ => nI j) 0) ((fun _ => σ 0 (8 + 5 * j + 1)) 0) x)), (0, .ref (h 0)), (1, .int (nI f)), (2, .int t), (3, .int x)] dX6_act_123 (by decide) rfl ?_
            refine r_aload_n (pc := 125) C 1 dX6_act_125 rfl rfl ?_
            refine mg_isParted (pc := 126) C fl_RX6_314 dX6_act_126 0 (congrFun (su_at) 0) ?_
            refine r_if_eq (pc := 129) C 137 dX6_act_129 (by decide) (fun c_9 => ?_) (fun c_9 => ?_)
            · skip
              revert c_9; intro c_9
              refine r_iload (pc := 137) C 0 dX6_act_137 rfl ?_
              exact r_iret (pc := 139) C hr hlk dX6_act_139 rfl (by first | rfl | (simp [gateI, gateF, acD, acV, acC, *]; done) | simp_all [gateI, gateF, acD, acV, acC]) (by rw [show (gateF (inB (nI f) 0 3 && (inB t 0 3 && decide (hoF n (σ 18) (σ 19) (nI f).toNatClampNeg = 1))) (trB (σ 21) 0 (acC t (σ 0 (8 + 5 * (σ 19 (nI f).toNatClampNeg).toNatClampNeg)) (σ 19 (nI f).toNatClampNeg) (σ 0 (8 + 5 * (σ 19 (nI f).toNatClampNeg).toNatClampNeg + 1)))) (σ 21) : Nat → Int32) = trB (σ 21) 0 (paC ((fun _ => σ 0 (8 + 5 * j)) 0)) from (by first | rfl | (simp [gateI, gateF, acD, acV, acC, *]; done) | simp_all [gateI, gateF, acD, acV, acC]), show (gateF (inB (nI f) 0 3 && (inB t 0 3 && decide (hoF n (σ 18) (σ 19) (nI f).toNatClampNeg = 1))) (fun _ => nI (trR 0 (acC t (σ 0 (8 + 5 * (σ 19 (nI f).toNatClampNeg).toNatClampNeg)) (σ 19 (nI f).toNatClampNeg) (σ 0 (8 + 5 * (σ 19 (nI f).toNatClampNeg).toNatClampNeg + 1))))) (fun _ => 0) : Nat → Int32) = fun _ => nI (trR 0 (paC ((fun _ => σ 0 (8 + 5 * j)) 0))) from (by first | rfl | (simp [gateI, gateF, acD, acV, acC, *]; done) | simp_all [gateI, gateF, acD, acV, acC]), show (gateF (inB (nI f) 0 3 && (inB t 0 3 && decide (hoF n (σ 18) (σ 19) (nI f).toNatClampNeg = 1))) (fun _ => σ 0 (8 + 5 * (σ 19 (nI f).toNatClampNeg).toNatClampNeg)) (σ 23) : Nat → Int32) = fun _ => σ 0 (8 + 5 * j) from (by first | rfl | (simp [gateI, gateF, acD, acV, acC, *]; done) | simp_all [gateI, gateF, acD, acV, acC]), show (gateF (inB (nI f) 0 3 && (inB t 0 3 && decide (hoF n (σ 18) (σ 19) (nI f).toNatClampNeg = 1))) (fun _ => σ 19 (nI f).toNatClampNeg) (σ 24) : Nat → Int32) = fun _ => nI j from (by first | rfl | (simp [gateI, gateF, acD, acV, acC, *]; done) | simp_all [gateI, gateF, acD, acV, acC]), show (gateF (inB (nI f) 0 3 && (inB t 0 3 && decide (hoF n (σ 18) (σ 19) (nI f).toNatClampNeg = 1))) (fun _ => σ 0 (8 + 5 * (σ 19 (nI f).toNatClampNeg).toNatClampNeg + 1)) (σ 25) : Nat → Int32) = fun _ => σ 0 (8 + 5 * j + 1) from (by first | rfl | (simp [gateI, gateF, acD, acV, acC, *]; done) | simp_all [gateI, gateF, acD, acV, acC]), show (gateF (inB (nI f) 0 3 && (inB t 0 3 && decide (hoF n (σ 18) (σ 19) (nI f).toNatClampNeg = 1))) (fun _ => acD t (σ 0 (8 + 5 * (σ 19 (nI f).toNatClampNeg).toNatClampNeg)) (σ 19 (nI f).toNatClampNeg) (σ 0 (8 + 5 * (σ 19 (nI f).toNatClampNeg).toNatClampNeg + 1))) (σ 26) : Nat → Int32) = fun _ => 0 from (by first | rfl | (simp [gateI, gateF, acD, acV, acC, *]; done) | simp_all [gateI, gateF, acD, acV, acC])] <;> rfl)
            · skip
              revert c_9; intro c_9
              exact absurd c_9 (by decide)
        · skip
          refine r_aload_n (pc := 84) C 0 dX6_act_84 rfl rfl ?_
          refine r_iload_n (pc := 85) C 3 dX6_act_85 rfl rfl ?_
          refine rc_Vi (pc := 86) C (t_X6_seesBy' l ad D cs h (su (su (su (su (su σ 22 (fun _ => 0)) 23 (fun _ => σ 0 (8 + 5 * j))) 24 (fun _ => nI j)) 25 (fun _ => σ 0 (8 + 5 * j + 1))) 26 (fun _ => 0)) pre post (σ 21) ((((((su_nn (by decide)).trans (su_nn (by decide))).trans (su_nn (by decide))).trans (su_nn (by decide))).trans (su_nn (by decide)))) (fun _ => 0) (((((su_nn (by decide)).trans (su_nn (by decide))).trans (su_nn (by decide))).trans (su_nn (by decide))).trans su_at) (fun _ => σ 0 (8 + 5 * j)) ((((su_nn (by decide)).trans (su_nn (by decide))).trans (su_nn (by decide))).trans su_at) (fun _ => nI j) (((su_nn (by decide)).trans (su_nn (by decide))).trans su_at) (fun _ => σ 0 (8 + 5 * j + 1)) ((su_nn (by decide)).trans su_at) 0 x rfl (by omega)) mv_X6_seesBy ml_RX6_308 rfl ⟨Nat.le_of_ble_eq_true rfl, Nat.le_of_ble_eq_true rfl⟩ ⟨rfl, rfl⟩ (q0 := 0) rfl rfl rfl rfl rfl rfl (Nat.le_of_ble_eq_true rfl) dX6_act_86 ?_
          refine r_blk (blk' := wM cs h (su (su (su (su (su (su σ 21 (trB (σ 21) 0 (seC ((fun _ => σ 0 (8 + 5 * j)) 0)))) 22 (fun _ => nI (trR 0 (seC ((fun _ => σ 0 (8 + 5 * j)) 0))))) 23 (fun _ => σ 0 (8 + 5 * j))) 24 (fun _ => nI j)) 25 (fun _ => σ 0 (8 + 5 * j + 1))) 26 (fun _ => 0))) (congrArg (wM cs h) (by rw [su_cm (k := 26) (j := 21) (by decide), su_cm (k := 25) (j := 21) (by decide), su_cm (k := 24) (j := 21) (by decide), su_cm (k := 23) (j := 21) (by decide), su_cm (k := 22) (j := 21) (by decide), su_cm (k := 26) (j := 22) (by decide), su_cm (k := 25) (j := 22) (by decide), su_cm (k := 24) (j := 22) (by decide), su_cm (k := 23) (j := 22) (by decide), su_su (k := 22)])) ?_
          refine r_goto (pc := 89) C 123 dX6_act_89 (by decide) ?_
          refine r_istore (pc := 123) C [(4, .int (seV ((fun _ => σ 0 (8 + 5 * j)) 0) ((fun _ => nI j) 0) ((fun _ => σ 0 (8 + 5 * j + 1)) 0) x)), (0, .ref (h 0)), (1, .int (nI f)), (2, .int t), (3, .int x)] dX6_act_123 (by decide) rfl ?_
          refine r_aload_n (pc := 125) C 1 dX6_act_125 rfl rfl ?_
          refine mg_isParted (pc := 126) C fl_RX6_314 dX6_act_126 0 (congrFun (su_at) 0) ?_
          refine r_if_eq (pc := 129) C 137 dX6_act_129 (by decide) (fun c_10 => ?_) (fun c_10 => ?_)
          · skip
            revert c_10; intro c_10
            refine r_iload (pc := 137) C 0 dX6_act_137 rfl ?_
            exact r_iret (pc := 139) C hr hlk dX6_act_139 rfl (by first | rfl | (simp [gateI, gateF, acD, acV, acC, *]; done) | simp_all [gateI, gateF, acD, acV, acC]) (by rw [show (gateF (inB (nI f) 0 3 && (inB t 0 3 && decide (hoF n (σ 18) (σ 19) (nI f).toNatClampNeg = 1))) (trB (σ 21) 0 (acC t (σ 0 (8 + 5 * (σ 19 (nI f).toNatClampNeg).toNatClampNeg)) (σ 19 (nI f).toNatClampNeg) (σ 0 (8 + 5 * (σ 19 (nI f).toNatClampNeg).toNatClampNeg + 1)))) (σ 21) : Nat → Int32) = trB (σ 21) 0 (seC ((fun _ => σ 0 (8 + 5 * j)) 0)) from (by first | rfl | (simp [gateI, gateF, acD, acV, acC, *]; done) | simp_all [gateI, gateF, acD, acV, acC]), show (gateF (inB (nI f) 0 3 && (inB t 0 3 && decide (hoF n (σ 18) (σ 19) (nI f).toNatClampNeg = 1))) (fun _ => nI (trR 0 (acC t (σ 0 (8 + 5 * (σ 19 (nI f).toNatClampNeg).toNatClampNeg)) (σ 19 (nI f).toNatClampNeg) (σ 0 (8 + 5 * (σ 19 (nI f).toNatClampNeg).toNatClampNeg + 1))))) (fun _ => 0) : Nat → Int32) = fun _ => nI (trR 0 (seC ((fun _ => σ 0 (8 + 5 * j)) 0))) from (by first | rfl | (simp [gateI, gateF, acD, acV, acC, *]; done) | simp_all [gateI, gateF, acD, acV, acC]), show (gateF (inB (nI f) 0 3 && (inB t 0 3 && decide (hoF n (σ 18) (σ 19) (nI f).toNatClampNeg = 1))) (fun _ => σ 0 (8 + 5 * (σ 19 (nI f).toNatClampNeg).toNatClampNeg)) (σ 23) : Nat → Int32) = fun _ => σ 0 (8 + 5 * j) from (by first | rfl | (simp [gateI, gateF, acD, acV, acC, *]; done) | simp_all [gateI, gateF, acD, acV, acC]), show (gateF (inB (nI f) 0 3 && (inB t 0 3 && decide (hoF n (σ 18) (σ 19) (nI f).toNatClampNeg = 1))) (fun _ => σ 19 (nI f).toNatClampNeg) (σ 24) : Nat → Int32) = fun _ => nI j from (by first | rfl | (simp [gateI, gateF, acD, acV, acC, *]; done) | simp_all [gateI, gateF, acD, acV, acC]), show (gateF (inB (nI f) 0 3 && (inB t 0 3 && decide (hoF n (σ 18) (σ 19) (nI f).toNatClampNeg = 1))) (fun _ => σ 0 (8 + 5 * (σ 19 (nI f).toNatClampNeg).toNatClampNeg + 1)) (σ 25) : Nat → Int32) = fun _ => σ 0 (8 + 5 * j + 1) from (by first | rfl | (simp [gateI, gateF, acD, acV, acC, *]; done) | simp_all [gateI, gateF, acD, acV, acC]), show (gateF (inB (nI f) 0 3 && (inB t 0 3 && decide (hoF n (σ 18) (σ 19) (nI f).toNatClampNeg = 1))) (fun _ => acD t (σ 0 (8 + 5 * (σ 19 (nI f).toNatClampNeg).toNatClampNeg)) (σ 19 (nI f).toNatClampNeg) (σ 0 (8 + 5 * (σ 19 (nI f).toNatClampNeg).toNatClampNeg + 1))) (σ 26) : Nat → Int32) = fun _ => 0 from (by first | rfl | (simp [gateI, gateF, acD, acV, acC, *]; done) | simp_all [gateI, gateF, acD, acV, acC])] <;> rfl)
          · skip
            revert c_10; intro c_10
            exact absurd c_10 (by decide)
      · skip
        refine r_iconst (pc := 33) C 0 dX6_act_33 (by decide) ?_
        exact r_iret (pc := 34) C hr hlk dX6_act_34 rfl (by first | rfl | (simp [gateI, gateF, acD, acV, acC, *]; done) | simp_all [gateI, gateF, acD, acV, acC]) (by rw [show (gateF (inB (nI f) 0 3 && (inB t 0 3 && decide (hoF n (σ 18) (σ 19) (nI f).toNatClampNeg = 1))) (trB (σ 21) 0 (acC t (σ 0 (8 + 5 * (σ 19 (nI f).toNatClampNeg).toNatClampNeg)) (σ 19 (nI f).toNatClampNeg) (σ 0 (8 + 5 * (σ 19 (nI f).toNatClampNeg).toNatClampNeg + 1)))) (σ 21) : Nat → Int32) = σ 21 from (by first | rfl | (simp [gateI, gateF, acD, acV, acC, *]; done) | simp_all [gateI, gateF, acD, acV, acC]), show (gateF (inB (nI f) 0 3 && (inB t 0 3 && decide (hoF n (σ 18) (σ 19) (nI f).toNatClampNeg = 1))) (fun _ => nI (trR 0 (acC t (σ 0 (8 + 5 * (σ 19 (nI f).toNatClampNeg).toNatClampNeg)) (σ 19 (nI f).toNatClampNeg) (σ 0 (8 + 5 * (σ 19 (nI f).toNatClampNeg).toNatClampNeg + 1))))) (fun _ => 0) : Nat → Int32) = fun _ => 0 from (by first | rfl | (simp [gateI, gateF, acD, acV, acC, *]; done) | simp_all [gateI, gateF, acD, acV, acC]), show (gateF (inB (nI f) 0 3 && (inB t 0 3 && decide (hoF n (σ 18) (σ 19) (nI f).toNatClampNeg = 1))) (fun _ => σ 0 (8 + 5 * (σ 19 (nI f).toNatClampNeg).toNatClampNeg)) (σ 23) : Nat → Int32) = σ 23 from (by first | rfl | (simp [gateI, gateF, acD, acV, acC, *]; done) | simp_all [gateI, gateF, acD, acV, acC]), show (gateF (inB (nI f) 0 3 && (inB t 0 3 && decide (hoF n (σ 18) (σ 19) (nI f).toNatClampNeg = 1))) (fun _ => σ 19 (nI f).toNatClampNeg) (σ 24) : Nat → Int32) = σ 24 from (by first | rfl | (simp [gateI, gateF, acD, acV, acC, *]; done) | simp_all [gateI, gateF, acD, acV, acC]), show (gateF (inB (nI f) 0 3 && (inB t 0 3 && decide (hoF n (σ 18) (σ 19) (nI f).toNatClampNeg = 1))) (fun _ => σ 0 (8 + 5 * (σ 19 (nI f).toNatClampNeg).toNatClampNeg + 1)) (σ 25) : Nat → Int32) = σ 25 from (by first | rfl | (simp [gateI, gateF, acD, acV, acC, *]; done) | simp_all [gateI, gateF, acD, acV, acC]), show (gateF (inB (nI f) 0 3 && (inB t 0 3 && decide (hoF n (σ 18) (σ 19) (nI f).toNatClampNeg = 1))) (fun _ => acD t (σ 0 (8 + 5 * (σ 19 (nI f).toNatClampNeg).toNatClampNeg)) (σ 19 (nI f).toNatClampNeg) (σ 0 (8 + 5 * (σ 19 (nI f).toNatClampNeg).toNatClampNeg + 1))) (σ 26) : Nat → Int32) = σ 26 from (by first | rfl | (simp [gateI, gateF, acD, acV, acC, *]; done) | simp_all [gateI, gateF, acD, acV, acC])] <;> rfl)
theorem t_X6_act' (l : Launch) (ad : Nat → Nat) (D : va_G) (cs : Nat → ClassId) (h : Nat → Nat) (σ : Nat → Nat → Int32) (pre post : va_W) (f0_ : Nat → Int32) (e0_ : σ 0 = f0_) (f18_ : Nat → Int32) (e18_ : σ 18 = f18_) (f19_ : Nat → Int32) (e19_ : σ 19 = f19_) (f21_ : Nat → Int32) (e21_ : σ 21 = f21_) (f23_ : Nat → Int32) (e23_ : σ 23 = f23_) (f24_ : Nat → Int32) (e24_ : σ 24 = f24_) (f25_ : Nat → Int32) (e25_ : σ 25 = f25_) (f26_ : Nat → Int32) (e26_ : σ 26 = f26_) (n : Nat) (g t x : Int32) (hN : f0_ 0 = nI n) (hn : n ≤ 8) : CTi l yX6_act cX6_act 5 .int ({ frames := 8, cells := 0, slots := 0, locals := 170 }) ad D (tysW cs) (pre ++ (wM cs h σ ++ post)) [.ref (h 0), .int g, .int t, .int x] (gateI (inB g 0 3 && (inB t 0 3 && decide (hoF n (f18_) (f19_) g.toNatClampNeg = 1))) (if acD t (f0_ (8 + 5 * (f19_ g.toNatClampNeg).toNatClampNeg)) (f19_ g.toNatClampNeg) (f0_ (8 + 5 * (f19_ g.toNatClampNeg).toNatClampNeg + 1)) = 0 then acV t (f0_ (8 + 5 * (f19_ g.toNatClampNeg).toNatClampNeg)) (f19_ g.toNatClampNeg) (f0_ (8 + 5 * (f19_ g.toNatClampNeg).toNatClampNeg + 1)) x else -15) 0) (pre ++ (wM cs h (su (su (su (su (su (su σ 21 (gateF (inB g 0 3 && (inB t 0 3 && decide (hoF n (f18_) (f19_) g.toNatClampNeg = 1))) (trB (f21_) 0 (acC t (f0_ (8 + 5 * (f19_ g.toNatClampNeg).toNatClampNeg)) (f19_ g.toNatClampNeg) (f0_ (8 + 5 * (f19_ g.toNatClampNeg).toNatClampNeg + 1)))) (f21_))) 22 (gateF (inB g 0 3 && (inB t 0 3 && decide (hoF n (f18_) (f19_) g.toNatClampNeg = 1))) (fun _ => nI (trR 0 (acC t (f0_ (8 + 5 * (f19_ g.toNatClampNeg).toNatClampNeg)) (f19_ g.toNatClampNeg) (f0_ (8 + 5 * (f19_ g.toNatClampNeg).toNatClampNeg + 1))))) (fun _ => 0))) 23 (gateF (inB g 0 3 && (inB t 0 3 && decide (hoF n (f18_) (f19_) g.toNatClampNeg = 1))) (fun _ => f0_ (8 + 5 * (f19_ g.toNatClampNeg).toNatClampNeg)) (f23_))) 24 (gateF (inB g 0 3 && (inB t 0 3 && decide (hoF n (f18_) (f19_) g.toNatClampNeg = 1))) (fun _ => f19_ g.toNatClampNeg) (f24_))) 25 (gateF (inB g 0 3 && (inB t 0 3 && decide (hoF n (f18_) (f19_) g.toNatClampNeg = 1))) (fun _ => f0_ (8 + 5 * (f19_ g.toNatClampNeg).toNatClampNeg + 1)) (f25_))) 26 (gateF (inB g 0 3 && (inB t 0 3 && decide (hoF n (f18_) (f19_) g.toNatClampNeg = 1))) (fun _ => acD t (f0_ (8 + 5 * (f19_ g.toNatClampNeg).toNatClampNeg)) (f19_ g.toNatClampNeg) (f0_ (8 + 5 * (f19_ g.toNatClampNeg).toNatClampNeg + 1))) (f26_))) ++ post)) := by
  subst e0_; subst e18_; subst e19_; subst e21_; subst e23_; subst e24_; subst e25_; subst e26_
  exact t_X6_act l ad D cs h σ pre post n g t x hN hn
theorem dX6_trace_0 : decode cX6_trace 0 = .ok (.iload_n 1, 1) := by decide +kernel
theorem dX6_trace_1 : decode cX6_trace 1 = .ok (.i2l, 1) := by decide +kernel
theorem dX6_trace_2 : decode cX6_trace 2 = .ok (.lconst 0, 1) := by decide +kernel
theorem dX6_trace_3 : decode cX6_trace 3 = .ok (.aload_n 0, 1) := by decide +kernel
theorem dX6_trace_4 : decode cX6_trace 4 = .ok (.getfield 287, 3) := by decide +kernel
theorem dX6_trace_7 : decode cX6_trace 7 = .ok (.iconst 1, 1) := by decide +kernel
theorem dX6_trace_8 : decode cX6_trace 8 = .ok (.isub, 1) := by decide +kernel
theorem dX6_trace_9 : decode cX6_trace 9 = .ok (.i2l, 1) := by decide +kernel
theorem dX6_trace_10 : decode cX6_trace 10 = .ok (.invokestatic 57, 3) := by decide +kernel
theorem dX6_trace_13 : decode cX6_trace 13 = .ok (.ifCond .eq 12, 3) := by decide +kernel
theorem dX6_trace_16 : decode cX6_trace 16 = .ok (.aload_n 0, 1) := by decide +kernel
theorem dX6_trace_17 : decode cX6_trace 17 = .ok (.getfield 49, 3) := by decide +kernel
theorem dX6_trace_20 : decode cX6_trace 20 = .ok (.iload_n 1, 1) := by decide +kernel
theorem dX6_trace_21 : decode cX6_trace 21 = .ok (.iaload, 1) := by decide +kernel
theorem dX6_trace_22 : decode cX6_trace 22 = .ok (.goto 5, 3) := by decide +kernel
theorem dX6_trace_25 : decode cX6_trace 25 = .ok (.bipush (-3), 2) := by decide +kernel
theorem dX6_trace_27 : decode cX6_trace 27 = .ok (.ireturn, 1) := by decide +kernel
set_option maxHeartbeats 400000 in
set_option maxRecDepth 20000 in
theorem t_X6_trace (l : Launch) (ad : Nat → Nat) (D : va_G) (cs : Nat → ClassId) (h : Nat → Nat) (σ : Nat → Nat → Int32) (pre post : va_W) (n r : Nat) (i : Int32) (hN : σ 0 0 = nI n) (hn : n ≤ 8) (hR : σ 22 0 = nI r) (hr0 : r ≤ 30) : CTi l yX6_trace cX6_trace 2 .int ({ frames := 1, cells := 0, slots := 0, locals := 25 }) ad D (tysW cs) (pre ++ (wM cs h σ ++ post)) [.ref (h 0), .int i] (gateI (inB i 0 (nI r - 1)) (σ 21 i.toNatClampNeg) (-3)) (pre ++ (wM cs h σ ++ post)) := by
  refine CTi.of (lv0 := [(0, .ref (h 0)), (1, .int i)]) (by decide) rfl (Nat.le_of_ble_eq_true rfl) (fun p e s m args below meth c A C hr hlk => ?_)
  have C : Cx p s m args c cX6_trace 2 RX6 ad D (tysW cs) A := C
  refine r_iload_n (pc := 0) C 1 dX6_trace_0 rfl rfl ?_
  refine r_i2l (pc := 1) C dX6_trace_1 ?_
  refine r_lconst (pc := 2) C 0 dX6_trace_2 (by decide) ?_
  refine r_aload_n (pc := 3) C 0 dX6_trace_3 rfl rfl ?_
  refine mg_ran (pc := 4) C fl_RX6_287 dX6_trace_4 (σ 22 0) rfl ?_
  refine r_eqi (y := nI r) (hR) ?_
  refine r_iconst (pc := 7) C 1 dX6_trace_7 (by decide) ?_
  refine r_isub (pc := 8) C dX6_trace_8 ?_
  refine r_i2l (pc := 9) C dX6_trace_9 ?_
  refine rc_Si (pc := 10) C (t_X6_isIn l ad D (tysW cs) (wM cs h σ) pre post  i (0 : Int32) ((nI r) - 1) ) ms_X6_isIn ml_RX6_57 rfl ⟨Nat.le_of_ble_eq_true rfl, Nat.le_of_ble_eq_true rfl⟩ ⟨rfl, rfl⟩ rfl rfl rfl (Nat.le_of_ble_eq_true rfl) dX6_trace_10 ?_
  refine r_if_eq (pc := 13) C 25 dX6_trace_13 (by decide) (fun c_1 => ?_) (fun c_1 => ?_)
  · skip
    have c_1 := bI_0.mp c_1
    refine r_bipush (pc := 25) C (-3) dX6_trace_25 (by decide) ?_
    exact r_iret (pc := 27) C hr hlk dX6_trace_27 rfl (by first | rfl | (simp [gateI, gateF, *]; done) | simp_all [gateI, gateF]) rfl
  · skip
    have c_1 := bI_n.mp c_1
    obtain ⟨t, h_t, rfl⟩ := rng_pred r (by omega) c_1
    have e_t : (nI t).toNatClampNeg = t := nI_clamp (by omega)
    refine r_aload_n (pc := 16) C 0 dX6_trace_16 rfl rfl ?_
    refine mg_bodies (pc := 17) C fl_RX6_49 dX6_trace_17 ?_
    refine r_iload_n (pc := 20) C 1 dX6_trace_20 rfl rfl ?_
    refine al_bodies (pc := 21) C t (rfl) (by omega) dX6_trace_21 (σ 21 t) rfl ?_
    refine r_goto (pc := 22) C 27 dX6_trace_22 (by decide) ?_
    exact r_iret (pc := 27) C hr hlk dX6_trace_27 rfl (by first | rfl | (simp [gateI, gateF, *]; done) | simp_all [gateI, gateF]) rfl
theorem t_X6_trace' (l : Launch) (ad : Nat → Nat) (D : va_G) (cs : Nat → ClassId) (h : Nat → Nat) (σ : Nat → Nat → Int32) (pre post : va_W) (f0_ : Nat → Int32) (e0_ : σ 0 = f0_) (f21_ : Nat → Int32) (e21_ : σ 21 = f21_) (f22_ : Nat → Int32) (e22_ : σ 22 = f22_) (n r : Nat) (i : Int32) (hN : f0_ 0 = nI n) (hn : n ≤ 8) (hR : f22_ 0 = nI r) (hr0 : r ≤ 30) : CTi l yX6_trace cX6_trace 2 .int ({ frames := 1, cells := 0, slots := 0, locals := 25 }) ad D (tysW cs) (pre ++ (wM cs h σ ++ post)) [.ref (h 0), .int i] (gateI (inB i 0 (nI r - 1)) (f21_ i.toNatClampNeg) (-3)) (pre ++ (wM cs h σ ++ post)) := by
  subst e0_; subst e21_; subst e22_
  exact t_X6_trace l ad D cs h σ pre post n r i hN hn hR hr0
