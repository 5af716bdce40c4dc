theorem mk_no {b : Bool} {f : Nat} (hf : f < 2 ^ 31) (h : (if b = true then nI f else -1) < 0) : ¬ b = true := fun q => by
  rw [if_pos q] at h
  exact absurd h (nI_pos hf)
theorem mk_yes {b : Bool} {f : Nat} (h : ¬ (if b = true then nI f else -1) < 0) : b = true := by
  by_cases q : b = true
  · exact q
  · rw [if_neg q] at h; exact absurd (by decide) h
theorem mCF_le {T : Nat → Int32} {t : Nat} : ∀ d (s : PS), s.2.1 ≤ t → (mCF T t d s).2.1 ≤ t
  | 0, s, h => h
  | d + 1, s, h => by
    unfold mCF
    split
    · exact mCF_le d _ (itC_le h)
    · exact h
theorem mCS_le {T : Nat → Int32} {t : Nat} {m : Nat → Int32} (h : m 0 = 0) : (mCS T t m).2.1 ≤ t := mCF_le _ _ (Nat.zero_le _)
theorem dX5_feed_0 : decode cX5_feed 0 = .ok (.iload_n 3, 1) := by decide +kernel
theorem dX5_feed_1 : decode cX5_feed 1 = .ok (.iconst 1, 1) := by decide +kernel
theorem dX5_feed_2 : decode cX5_feed 2 = .ok (.bipush 8, 2) := by decide +kernel
theorem dX5_feed_4 : decode cX5_feed 4 = .ok (.invokestatic 59, 3) := by decide +kernel
theorem dX5_feed_7 : decode cX5_feed 7 = .ok (.ifCond .ne 5, 3) := by decide +kernel
theorem dX5_feed_10 : decode cX5_feed 10 = .ok (.iconst (-1), 1) := by decide +kernel
theorem dX5_feed_11 : decode cX5_feed 11 = .ok (.ireturn, 1) := by decide +kernel
theorem dX5_feed_12 : decode cX5_feed 12 = .ok (.aload_n 0, 1) := by decide +kernel
theorem dX5_feed_13 : decode cX5_feed 13 = .ok (.getfield 25, 3) := by decide +kernel
theorem dX5_feed_16 : decode cX5_feed 16 = .ok (.getfield 63, 3) := by decide +kernel
theorem dX5_feed_19 : decode cX5_feed 19 = .ok (.sipush 200, 3) := by decide +kernel
theorem dX5_feed_22 : decode cX5_feed 22 = .ok (.iload_n 3, 1) := by decide +kernel
theorem dX5_feed_23 : decode cX5_feed 23 = .ok (.isub, 1) := by decide +kernel
theorem dX5_feed_24 : decode cX5_feed 24 = .ok (.if_icmp .le 6, 3) := by decide +kernel
theorem dX5_feed_27 : decode cX5_feed 27 = .ok (.bipush (-2), 2) := by decide +kernel
theorem dX5_feed_29 : decode cX5_feed 29 = .ok (.ireturn, 1) := by decide +kernel
theorem dX5_feed_30 : decode cX5_feed 30 = .ok (.aload_n 0, 1) := by decide +kernel
theorem dX5_feed_31 : decode cX5_feed 31 = .ok (.getfield 25, 3) := by decide +kernel
theorem dX5_feed_34 : decode cX5_feed 34 = .ok (.lload_n 1, 1) := by decide +kernel
theorem dX5_feed_35 : decode cX5_feed 35 = .ok (.iload_n 3, 1) := by decide +kernel
theorem dX5_feed_36 : decode cX5_feed 36 = .ok (.invokevirtual 67, 3) := by decide +kernel
theorem dX5_feed_39 : decode cX5_feed 39 = .ok (.aload_n 0, 1) := by decide +kernel
theorem dX5_feed_40 : decode cX5_feed 40 = .ok (.getfield 25, 3) := by decide +kernel
theorem dX5_feed_43 : decode cX5_feed 43 = .ok (.getfield 63, 3) := by decide +kernel
theorem dX5_feed_46 : decode cX5_feed 46 = .ok (.ireturn, 1) := by decide +kernel
set_option maxHeartbeats 400000 in
set_option maxRecDepth 20000 in
theorem t_X5_feed (l : Launch) (ad : Nat → Nat) (D : va_G) (cs : Nat → ClassId) (h : Nat → Nat) (σ : Nat → Nat → Int32) (pre post : va_W) (t : Nat) (ev : Int64) (k : Int32) (hT : σ 6 0 = nI t) (ht : t ≤ 200) : CTi l yX5_feed cX5_feed 4 .int ({ frames := 1, cells := 0, slots := 0, locals := 24 }) ad D (tysW cs) (pre ++ (wX cs h σ ++ post)) [.ref (h 0), .long ev, .int k] (gateI (inB k 1 8) (if t + k.toNatClampNeg ≤ 200 then nI (t + k.toNatClampNeg) else -2) (-1)) (pre ++ (wX cs h (su (su σ 5 (gateF (inB k 1 8 && decide (t + k.toNatClampNeg ≤ 200)) (fdN (σ 5) ev t k.toNatClampNeg) (σ 5))) 6 (gateF (inB k 1 8 && decide (t + k.toNatClampNeg ≤ 200)) (fun _ => nI (t + k.toNatClampNeg)) (σ 6))) ++ post)) := by
  refine CTi.of (lv0 := [(0, .ref (h 0)), (1, .long ev), (3, .int k)]) (by decide) rfl (Nat.le_of_ble_eq_true rfl) (fun p e s m args below meth c A C hr hlk => ?_)
  have C : Cx p s m args c cX5_feed 4 RX5 ad D (tysW cs) A := C
  refine r_iload_n (pc := 0) C 2 dX5_feed_0 rfl rfl ?_
  refine r_iconst (pc := 1) C 1 dX5_feed_1 (by decide) ?_
  refine r_bipush (pc := 2) C 8 dX5_feed_2 (by decide) ?_
  refine rc_Si (pc := 4) C (t_X5_isWithin l ad D (tysW cs) (wX cs h σ) pre post  k (1 : Int32) (8 : Int32) ) ms_X5_isWithin ml_RX5_59 rfl ⟨Nat.le_of_ble_eq_true rfl, Nat.le_of_ble_eq_true rfl⟩ ⟨rfl, rfl⟩ rfl rfl rfl (Nat.le_of_ble_eq_true rfl) dX5_feed_4 ?_
  refine r_if_ne (pc := 7) C 12 dX5_feed_7 (by decide) (fun c_1 => ?_) (fun c_1 => ?_)
  · skip
    have c_1 := bI_n.mp c_1
    obtain ⟨u, l_u, h_u, rfl⟩ := rng_nat 1 8 (by decide) (by decide) c_1
    have e_u : (nI u).toNatClampNeg = u := nI_clamp (by omega)
    refine r_aload_n (pc := 12) C 0 dX5_feed_12 rfl rfl ?_
    refine xg_tape (pc := 13) C fl_RX5_25 dX5_feed_13 ?_
    refine xg_t_size (pc := 16) C fl_RX5_63 dX5_feed_16 (σ 6 0) rfl ?_
    refine r_eqi (y := nI t) (hT) ?_
    refine r_sipush (pc := 19) C 200 dX5_feed_19 (by decide) ?_
    refine r_iload_n (pc := 22) C 2 dX5_feed_22 rfl rfl ?_
    refine r_isub (pc := 23) C dX5_feed_23 ?_
    refine r_eqi (y := nI (200 - u)) (pk_sub (a := 200) (by omega)) ?_
    refine r_icmp_le (pc := 24) C 30 dX5_feed_24 (by decide) (fun c_2 => ?_) (fun c_2 => ?_)
    · skip
      have c_2 := nIc_le_t (a := t) (b := (200 - u)) (by omega) (by omega) c_2
      have hx_ : t + u ≤ 200 := by omega
      refine r_aload_n (pc := 30) C 0 dX5_feed_30 rfl rfl ?_
      refine xg_tape (pc := 31) C fl_RX5_25 dX5_feed_31 ?_
      refine r_lload_n (pc := 34) C 1 dX5_feed_34 rfl rfl ?_
      refine r_iload_n (pc := 35) C 2 dX5_feed_35 rfl rfl ?_
      refine rc_Vv (pc := 36) C (t_X3_takeBytes' l ad D cs h σ pre post (σ 5) (rfl) (σ 6) (rfl) t ev u hT (by omega) (by omega)) mv_X3_takeBytes ml_RX5_67 rfl ⟨Nat.le_of_ble_eq_true rfl, Nat.le_of_ble_eq_true rfl⟩ ⟨rfl, rfl⟩ (q0 := 33) rfl rfl rfl rfl rfl rfl (Nat.le_of_ble_eq_true rfl) dX5_feed_36 ?_
      refine r_aload_n (pc := 39) C 0 dX5_feed_39 rfl rfl ?_
      refine xg_tape (pc := 40) C fl_RX5_25 dX5_feed_40 ?_
      refine xg_t_size (pc := 43) C fl_RX5_63 dX5_feed_43 (nI (t + u)) (congrFun (su_at) 0) ?_
      exact r_iret (pc := 46) C hr hlk dX5_feed_46 rfl (by first | rfl | (simp [gateI, gateF, *]; done) | simp_all [gateI, gateF]) (by rw [show (gateF (inB (nI u) 1 8 && decide (t + (nI u).toNatClampNeg ≤ 200)) (fdN (σ 5) ev t (nI u).toNatClampNeg) (σ 5) : Nat → Int32) = fdN (σ 5) ev t u from (by first | rfl | (simp [gateI, gateF, *]; done) | simp_all [gateI, gateF]), show (gateF (inB (nI u) 1 8 && decide (t + (nI u).toNatClampNeg ≤ 200)) (fun _ => nI (t + (nI u).toNatClampNeg)) (σ 6) : Nat → Int32) = fun _ => nI (t + u) from (by first | rfl | (simp [gateI, gateF, *]; done) | simp_all [gateI, gateF])] <;> rfl)
    · skip
      have c_2 := nIc_le_f (a := t) (b := (200 - u)) (by omega) (by omega) c_2
      have hx_ : ¬ t + u ≤ 200 := by omega
      refine r_bipush (pc := 27) C (-2) dX5_feed_27 (by decide) ?_
      exact r_iret (pc := 29) C hr hlk dX5_feed_29 rfl (by first | rfl | (simp [gateI, gateF, *]; done) | simp_all [gateI, gateF]) (by rw [show (gateF (inB (nI u) 1 8 && decide (t + (nI u).toNatClampNeg ≤ 200)) (fdN (σ 5) ev t (nI u).toNatClampNeg) (σ 5) : Nat → Int32) = σ 5 from (by first | rfl | (simp [gateI, gateF, *]; done) | simp_all [gateI, gateF]), show (gateF (inB (nI u) 1 8 && decide (t + (nI u).toNatClampNeg ≤ 200)) (fun _ => nI (t + (nI u).toNatClampNeg)) (σ 6) : Nat → Int32) = σ 6 from (by first | rfl | (simp [gateI, gateF, *]; done) | simp_all [gateI, gateF])] <;> rfl)
  · skip
    have c_1 := bI_0.mp c_1
    refine r_iconst (pc := 10) C (-1) dX5_feed_10 (by decide) ?_
    exact r_iret (pc := 11) C hr hlk dX5_feed_11 rfl (by first | rfl | (simp [gateI, gateF, *]; done) | simp_all [gateI, gateF]) (by rw [show (gateF (inB k 1 8 && decide (t + k.toNatClampNeg ≤ 200)) (fdN (σ 5) ev t k.toNatClampNeg) (σ 5) : Nat → Int32) = σ 5 from (by first | rfl | (simp [gateI, gateF, *]; done) | simp_all [gateI, gateF]), show (gateF (inB k 1 8 && decide (t + k.toNatClampNeg ≤ 200)) (fun _ => nI (t + k.toNatClampNeg)) (σ 6) : Nat → Int32) = σ 6 from (by first | rfl | (simp [gateI, gateF, *]; done) | simp_all [gateI, gateF])] <;> rfl)
theorem t_X5_feed' (l : Launch) (ad : Nat → Nat) (D : va_G) (cs : Nat → ClassId) (h : Nat → Nat) (σ : Nat → Nat → Int32) (pre post : va_W) (f5_ : Nat → Int32) (e5_ : σ 5 = f5_) (f6_ : Nat → Int32) (e6_ : σ 6 = f6_) (t : Nat) (ev : Int64) (k : Int32) (hT : f6_ 0 = nI t) (ht : t ≤ 200) : CTi l yX5_feed cX5_feed 4 .int ({ frames := 1, cells := 0, slots := 0, locals := 24 }) ad D (tysW cs) (pre ++ (wX cs h σ ++ post)) [.ref (h 0), .long ev, .int k] (gateI (inB k 1 8) (if t + k.toNatClampNeg ≤ 200 then nI (t + k.toNatClampNeg) else -2) (-1)) (pre ++ (wX cs h (su (su σ 5 (gateF (inB k 1 8 && decide (t + k.toNatClampNeg ≤ 200)) (fdN (f5_) ev t k.toNatClampNeg) (f5_))) 6 (gateF (inB k 1 8 && decide (t + k.toNatClampNeg ≤ 200)) (fun _ => nI (t + k.toNatClampNeg)) (f6_))) ++ post)) := by
  subst e5_; subst e6_
  exact t_X5_feed l ad D cs h σ pre post t ev k hT ht
theorem dX5_market_0 : decode cX5_market 0 = .ok (.aload_n 0, 1) := by decide +kernel
theorem dX5_market_1 : decode cX5_market 1 = .ok (.getfield 25, 3) := by decide +kernel
theorem dX5_market_4 : decode cX5_market 4 = .ok (.invokevirtual 71, 3) := by decide +kernel
theorem dX5_market_7 : decode cX5_market 7 = .ok (.istore_n 1, 1) := by decide +kernel
theorem dX5_market_8 : decode cX5_market 8 = .ok (.aload_n 0, 1) := by decide +kernel
theorem dX5_market_9 : decode cX5_market 9 = .ok (.getfield 25, 3) := by decide +kernel
theorem dX5_market_12 : decode cX5_market 12 = .ok (.iconst 0, 1) := by decide +kernel
theorem dX5_market_13 : decode cX5_market 13 = .ok (.putfield 63, 3) := by decide +kernel
theorem dX5_market_16 : decode cX5_market 16 = .ok (.iload_n 1, 1) := by decide +kernel
theorem dX5_market_17 : decode cX5_market 17 = .ok (.ifCond .lt 8, 3) := by decide +kernel
theorem dX5_market_20 : decode cX5_market 20 = .ok (.bipush (-100), 2) := by decide +kernel
theorem dX5_market_22 : decode cX5_market 22 = .ok (.iload_n 1, 1) := by decide +kernel
theorem dX5_market_23 : decode cX5_market 23 = .ok (.isub, 1) := by decide +kernel
theorem dX5_market_24 : decode cX5_market 24 = .ok (.ireturn, 1) := by decide +kernel
theorem dX5_market_25 : decode cX5_market 25 = .ok (.aload_n 0, 1) := by decide +kernel
theorem dX5_market_26 : decode cX5_market 26 = .ok (.getfield 10, 3) := by decide +kernel
theorem dX5_market_29 : decode cX5_market 29 = .ok (.getfield 75, 3) := by decide +kernel
theorem dX5_market_32 : decode cX5_market 32 = .ok (.istore_n 2, 1) := by decide +kernel
theorem dX5_market_33 : decode cX5_market 33 = .ok (.aload_n 0, 1) := by decide +kernel
theorem dX5_market_34 : decode cX5_market 34 = .ok (.getfield 10, 3) := by decide +kernel
theorem dX5_market_37 : decode cX5_market 37 = .ok (.aload_n 0, 1) := by decide +kernel
theorem dX5_market_38 : decode cX5_market 38 = .ok (.getfield 25, 3) := by decide +kernel
theorem dX5_market_41 : decode cX5_market 41 = .ok (.getfield 78, 3) := by decide +kernel
theorem dX5_market_44 : decode cX5_market 44 = .ok (.invokevirtual 81, 3) := by decide +kernel
theorem dX5_market_47 : decode cX5_market 47 = .ok (.aload_n 0, 1) := by decide +kernel
theorem dX5_market_48 : decode cX5_market 48 = .ok (.getfield 10, 3) := by decide +kernel
theorem dX5_market_51 : decode cX5_market 51 = .ok (.iload_n 2, 1) := by decide +kernel
theorem dX5_market_52 : decode cX5_market 52 = .ok (.putfield 75, 3) := by decide +kernel
theorem dX5_market_55 : decode cX5_market 55 = .ok (.aload_n 0, 1) := by decide +kernel
theorem dX5_market_56 : decode cX5_market 56 = .ok (.iconst 0, 1) := by decide +kernel
theorem dX5_market_57 : decode cX5_market 57 = .ok (.putfield 85, 3) := by decide +kernel
theorem dX5_market_60 : decode cX5_market 60 = .ok (.aload_n 0, 1) := by decide +kernel
theorem dX5_market_61 : decode cX5_market 61 = .ok (.getfield 10, 3) := by decide +kernel
theorem dX5_market_64 : decode cX5_market 64 = .ok (.getfield 88, 3) := by decide +kernel
theorem dX5_market_67 : decode cX5_market 67 = .ok (.ireturn, 1) := by decide +kernel
set_option maxHeartbeats 400000 in
set_option maxRecDepth 20000 in
theorem t_X5_market (l : Launch) (ad : Nat → Nat) (D : va_G) (cs : Nat → ClassId) (h : Nat → Nat) (σ : Nat → Nat → Int32) (pre post : va_W) (t : Nat) (hT : σ 6 0 = nI t) (ht : t ≤ 200) (hb : ∀ j : Nat, j < t → 0 ≤ (σ 5 j).toInt ∧ (σ 5 j).toInt ≤ 255) : CTi l yX5_market cX5_market 3 .int ({ frames := 10, cells := 0, slots := 0, locals := 217 }) ad D (tysW cs) (pre ++ (wX cs h σ ++ post)) [.ref (h 0)] (if (mCS (σ 5) t (bfF (σ 3))).1 = true then -100 - nI (tkF (σ 5) t (mCS (σ 5) t (bfF (σ 3))).2.1) else (mCS (σ 5) t (bfF (σ 3))).2.2 0) (pre ++ (wX cs h (su (su (su (su (su (su (su σ 0 (if (mCS (σ 5) t (bfF (σ 3))).1 = true then σ 0 else upd (mCS (σ 5) t (bfF (σ 3))).2.2 2 (σ 0 2))) 3 ((mCS (σ 5) t (bfF (σ 3))).2.2)) 6 (fun _ => 0)) 7 (fun _ => nI (tkK (σ 5) t (mCS (σ 5) t (bfF (σ 3))).2.1))) 8 (fun _ => nI (tkF (σ 5) t (mCS (σ 5) t (bfF (σ 3))).2.1))) 9 (fun _ => nI (tkT (σ 5) t (mCS (σ 5) t (bfF (σ 3))).2.1))) 14 (if (mCS (σ 5) t (bfF (σ 3))).1 = true then σ 14 else fun _ => 0)) ++ post)) := by
  refine CTi.of (lv0 := [(0, .ref (h 0))]) (by decide) rfl (Nat.le_of_ble_eq_true rfl) (fun p e s m args below meth c A C hr hlk => ?_)
  have C : Cx p s m args c cX5_market 3 RX5 ad D (tysW cs) A := C
  have hfn : tkF (σ 5) t (mCS (σ 5) t (bfF (σ 3))).2.1 < 2 ^ 31 := Nat.lt_of_le_of_lt (tkF_le (T := σ 5) (mCS_le (bfF_0 _))).2 (by omega)
  refine r_aload_n (pc := 0) C 0 dX5_market_0 rfl rfl ?_
  refine xg_tape (pc := 1) C fl_RX5_25 dX5_market_1 ?_
  refine rc_Vi (pc := 4) C (t_X3_readText' l ad D cs h σ pre post (σ 3) (rfl) (σ 5) (rfl) (σ 6) (rfl) t hT ht hb) mv_X3_readText ml_RX5_71 rfl ⟨Nat.le_of_ble_eq_true rfl, Nat.le_of_ble_eq_true rfl⟩ ⟨rfl, rfl⟩ (q0 := 33) rfl rfl rfl rfl rfl rfl (Nat.le_of_ble_eq_true rfl) dX5_market_4 ?_
  refine r_istore_n (pc := 7) C [(1, .int (if (mCS (σ 5) t (bfF (σ 3))).1 = true then nI (tkF (σ 5) t (mCS (σ 5) t (bfF (σ 3))).2.1) else -1)), (0, .ref (h 0))] dX5_market_7 rfl (by decide) rfl ?_
  refine r_aload_n (pc := 8) C 1 dX5_market_8 rfl rfl ?_
  refine xg_tape (pc := 9) C fl_RX5_25 dX5_market_9 ?_
  refine r_iconst (pc := 12) C 0 dX5_market_12 (by decide) ?_
  refine xp_t_size (pc := 13) C fl_RX5_63 dX5_market_13 ?_
  refine r_blk (blk' := wX cs h (su (su (su (su (su σ 3 ((mCS (σ 5) t (bfF (σ 3))).2.2)) 6 (fun _ => 0)) 7 (fun _ => nI (tkK (σ 5) t (mCS (σ 5) t (bfF (σ 3))).2.1))) 8 (fun _ => nI (tkF (σ 5) t (mCS (σ 5) t (bfF (σ 3))).2.1))) 9 (fun _ => nI (tkT (σ 5) t (mCS (σ 5) t (bfF (σ 3))).2.1)))) (congrArg (wX cs h) (by rw [su_cm (k := 9) (j := 6) (by decide), su_cm (k := 8) (j := 6) (by decide), su_cm (k := 7) (j := 6) (by decide)])) ?_
  refine r_iload_n (pc := 16) C 0 dX5_market_16 rfl rfl ?_
  refine r_if_lt (pc := 17) C 25 dX5_market_17 (by decide) (fun c_1 => ?_) (fun c_1 => ?_)
  · skip
    have hnw : ¬ (mCS (σ 5) t (bfF (σ 3))).1 = true := mk_no (by omega) c_1
    refine r_aload_n (pc := 25) C 1 dX5_market_25 rfl rfl ?_
    refine xg_now (pc := 26) C fl_RX5_10 dX5_market_26 ?_
    refine xg_z_0 (pc := 29) C fl_RX5_75 dX5_market_29 (σ 0 2) (congrFun ((((((su_nn (by decide)).trans (su_nn (by decide))).trans (su_nn (by decide))).trans (su_nn (by decide))).trans (su_nn (by decide)))) 2) ?_
    refine r_istore_n (pc := 32) C [(2, .int (σ 0 2)), (1, .int (if (mCS (σ 5) t (bfF (σ 3))).1 = true then nI (tkF (σ 5) t (mCS (σ 5) t (bfF (σ 3))).2.1) else -1)), (0, .ref (h 0))] dX5_market_32 rfl (by decide) rfl ?_
    refine r_aload_n (pc := 33) C 2 dX5_market_33 rfl rfl ?_
    refine xg_now (pc := 34) C fl_RX5_10 dX5_market_34 ?_
    refine r_aload_n (pc := 37) C 2 dX5_market_37 rfl rfl ?_
    refine xg_tape (pc := 38) C fl_RX5_25 dX5_market_38 ?_
    refine xg_t_told (pc := 41) C fl_RX5_78 dX5_market_41 ?_
    refine rc_Vv (pc := 44) C (t_X0_copyFrom_3_0' l ad D cs h (su (su (su (su (su σ 3 ((mCS (σ 5) t (bfF (σ 3))).2.2)) 6 (fun _ => 0)) 7 (fun _ => nI (tkK (σ 5) t (mCS (σ 5) t (bfF (σ 3))).2.1))) 8 (fun _ => nI (tkF (σ 5) t (mCS (σ 5) t (bfF (σ 3))).2.1))) 9 (fun _ => nI (tkT (σ 5) t (mCS (σ 5) t (bfF (σ 3))).2.1))) pre post ((mCS (σ 5) t (bfF (σ 3))).2.2) (((((su_nn (by decide)).trans (su_nn (by decide))).trans (su_nn (by decide))).trans (su_nn (by decide))).trans su_at)  ) mv_X0_copyFrom ml_RX5_81 rfl ⟨Nat.le_of_ble_eq_true rfl, Nat.le_of_ble_eq_true rfl⟩ ⟨rfl, rfl⟩ (q0 := 1) rfl rfl rfl rfl rfl rfl (Nat.le_of_ble_eq_true rfl) dX5_market_44 ?_
    refine r_blk (blk' := wX cs h (su (su (su (su (su (su σ 0 ((mCS (σ 5) t (bfF (σ 3))).2.2)) 3 ((mCS (σ 5) t (bfF (σ 3))).2.2)) 6 (fun _ => 0)) 7 (fun _ => nI (tkK (σ 5) t (mCS (σ 5) t (bfF (σ 3))).2.1))) 8 (fun _ => nI (tkF (σ 5) t (mCS (σ 5) t (bfF (σ 3))).2.1))) 9 (fun _ => nI (tkT (σ 5) t (mCS (σ 5) t (bfF (σ 3))).2.1)))) (congrArg (wX cs h) (by rw [su_cm (k := 9) (j := 0) (by decide), su_cm (k := 8) (j := 0) (by decide), su_cm (k := 7) (j := 0) (by decide), su_cm (k := 6) (j := 0) (by decide), su_cm (k := 3) (j := 0) (by decide)])) ?_
    refine r_aload_n (pc := 47) C 2 dX5_market_47 rfl rfl ?_
    refine xg_now (pc := 48) C fl_RX5_10 dX5_market_48 ?_
    refine r_iload_n (pc := 51) C 0 dX5_market_51 rfl rfl ?_
    refine xp_z_0 (pc := 52) C fl_RX5_75 dX5_market_52 ((mCS (σ 5) t (bfF (σ 3))).2.2) ((((((su_nn (by decide)).trans (su_nn (by decide))).trans (su_nn (by decide))).trans (su_nn (by decide))).trans (su_nn (by decide))).trans su_at) ?_
    refine r_blk (blk' := wX cs h (su (su (su (su (su (su σ 0 (upd ((mCS (σ 5) t (bfF (σ 3))).2.2) 2 (σ 0 2))) 3 ((mCS (σ 5) t (bfF (σ 3))).2.2)) 6 (fun _ => 0)) 7 (fun _ => nI (tkK (σ 5) t (mCS (σ 5) t (bfF (σ 3))).2.1))) 8 (fun _ => nI (tkF (σ 5) t (mCS (σ 5) t (bfF (σ 3))).2.1))) 9 (fun _ => nI (tkT (σ 5) t (mCS (σ 5) t (bfF (σ 3))).2.1)))) (congrArg (wX cs h) (by rw [su_cm (k := 9) (j := 0) (by decide), su_cm (k := 8) (j := 0) (by decide), su_cm (k := 7) (j := 0) (by decide), su_cm (k := 6) (j := 0) (by decide), su_cm (k := 3) (j := 0) (by decide), su_su])) ?_
    refine r_aload_n (pc := 55) C 2 dX5_market_55 rfl rfl ?_
    refine r_iconst (pc := 56) C 0 dX5_market_56 (by decide) ?_
    refine xp_rowCount (pc := 57) C fl_RX5_85 dX5_market_57 ?_
    refine r_aload_n (pc := 60) C 2 dX5_market_60 rfl rfl ?_
    refine xg_now (pc := 61) C fl_RX5_10 dX5_market_61 ?_
    refine xg_count_0 (pc := 64) C fl_RX5_88 dX5_market_64 (upd ((mCS (σ 5) t (bfF (σ 3))).2.2) 2 (σ 0 2) 0) (congrFun (((((((su_nn (by decide)).trans (su_nn (by decide))).trans (su_nn (by decide))).trans (su_nn (by decide))).trans (su_nn (by decide))).trans (su_nn (by decide))).trans su_at) 0) ?_
    exact r_iret (pc := 67) C hr hlk dX5_market_67 rfl (by first | exact (if_pos hnw).symm | (rw [if_neg hnw]; exact upd_ne (by decide)) | (rw [if_pos hnw]; rfl)) (by first | (rw [if_pos hnw, if_pos hnw] <;> rfl) | (rw [if_neg hnw, if_neg hnw] <;> rfl))
  · skip
    have hnw : (mCS (σ 5) t (bfF (σ 3))).1 = true := mk_yes c_1
    refine r_lv (lv' := [(1, .int (nI (tkF (σ 5) t (mCS (σ 5) t (bfF (σ 3))).2.1))), (0, .ref (h 0))]) (by rw [if_pos hnw]) ?_
    refine r_bipush (pc := 20) C (-100) dX5_market_20 (by decide) ?_
    refine r_iload_n (pc := 22) C 0 dX5_market_22 rfl rfl ?_
    refine r_isub (pc := 23) C dX5_market_23 ?_
    exact r_iret (pc := 24) C hr hlk dX5_market_24 rfl (by first | exact (if_pos hnw).symm | (rw [if_neg hnw]; exact upd_ne (by decide)) | (rw [if_pos hnw]; rfl)) (by first | (rw [if_pos hnw, if_pos hnw] <;> rfl) | (rw [if_neg hnw, if_neg hnw] <;> rfl))
theorem t_X5_market' (l : Launch) (ad : Nat → Nat) (D : va_G) (cs : Nat → ClassId) (h : Nat → Nat) (σ : Nat → Nat → Int32) (pre post : va_W) (f0_ : Nat → Int32) (e0_ : σ 0 = f0_) (f3_ : Nat → Int32) (e3_ : σ 3 = f3_) (f5_ : Nat → Int32) (e5_ : σ 5 = f5_) (f6_ : Nat → Int32) (e6_ : σ 6 = f6_) (f14_ : Nat → Int32) (e14_ : σ 14 = f14_) (t : Nat) (hT : f6_ 0 = nI t) (ht : t ≤ 200) (hb : ∀ j : Nat, j < t → 0 ≤ (f5_ j).toInt ∧ (f5_ j).toInt ≤ 255) : CTi l yX5_market cX5_market 3 .int ({ frames := 10, cells := 0, slots := 0, locals := 217 }) ad D (tysW cs) (pre ++ (wX cs h σ ++ post)) [.ref (h 0)] (if (mCS (f5_) t (bfF (f3_))).1 = true then -100 - nI (tkF (f5_) t (mCS (f5_) t (bfF (f3_))).2.1) else (mCS (f5_) t (bfF (f3_))).2.2 0) (pre ++ (wX cs h (su (su (su (su (su (su (su σ 0 (if (mCS (f5_) t (bfF (f3_))).1 = true then f0_ else upd (mCS (f5_) t (bfF (f3_))).2.2 2 (f0_ 2))) 3 ((mCS (f5_) t (bfF (f3_))).2.2)) 6 (fun _ => 0)) 7 (fun _ => nI (tkK (f5_) t (mCS (f5_) t (bfF (f3_))).2.1))) 8 (fun _ => nI (tkF (f5_) t (mCS (f5_) t (bfF (f3_))).2.1))) 9 (fun _ => nI (tkT (f5_) t (mCS (f5_) t (bfF (f3_))).2.1))) 14 (if (mCS (f5_) t (bfF (f3_))).1 = true then f14_ else fun _ => 0)) ++ post)) := by
  subst e0_; subst e3_; subst e5_; subst e6_; subst e14_
  exact t_X5_market l ad D cs h σ pre post t hT ht hb
