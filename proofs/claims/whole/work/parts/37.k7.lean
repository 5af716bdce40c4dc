theorem dX5_act_0 : decode cX5_act 0 = .ok (.aload_n 0, 1) := by decide +kernel
theorem dX5_act_1 : decode cX5_act 1 = .ok (.getfield 49, 3) := by decide +kernel
theorem dX5_act_4 : decode cX5_act 4 = .ok (.invokevirtual 260, 3) := by decide +kernel
theorem dX5_act_7 : decode cX5_act 7 = .ok (.iload_n 1, 1) := by decide +kernel
theorem dX5_act_8 : decode cX5_act 8 = .ok (.invokestatic 190, 3) := by decide +kernel
theorem dX5_act_11 : decode cX5_act 11 = .ok (.ifCond .eq 16, 3) := by decide +kernel
theorem dX5_act_14 : decode cX5_act 14 = .ok (.aload_n 0, 1) := by decide +kernel
theorem dX5_act_15 : decode cX5_act 15 = .ok (.aload_n 0, 1) := by decide +kernel
theorem dX5_act_16 : decode cX5_act 16 = .ok (.getfield 42, 3) := by decide +kernel
theorem dX5_act_19 : decode cX5_act 19 = .ok (.iload_n 1, 1) := by decide +kernel
theorem dX5_act_20 : decode cX5_act 20 = .ok (.aaload, 1) := by decide +kernel
theorem dX5_act_21 : decode cX5_act 21 = .ok (.invokevirtual 253, 3) := by decide +kernel
theorem dX5_act_24 : decode cX5_act 24 = .ok (.ifCond .ne 5, 3) := by decide +kernel
theorem dX5_act_27 : decode cX5_act 27 = .ok (.iconst 0, 1) := by decide +kernel
theorem dX5_act_28 : decode cX5_act 28 = .ok (.ireturn, 1) := by decide +kernel
theorem dX5_act_29 : decode cX5_act 29 = .ok (.aload_n 0, 1) := by decide +kernel
theorem dX5_act_30 : decode cX5_act 30 = .ok (.getfield 42, 3) := by decide +kernel
theorem dX5_act_33 : decode cX5_act 33 = .ok (.iload_n 1, 1) := by decide +kernel
theorem dX5_act_34 : decode cX5_act 34 = .ok (.aaload, 1) := by decide +kernel
theorem dX5_act_35 : decode cX5_act 35 = .ok (.getfield 250, 3) := by decide +kernel
theorem dX5_act_38 : decode cX5_act 38 = .ok (.istore 4, 2) := by decide +kernel
theorem dX5_act_40 : decode cX5_act 40 = .ok (.aload_n 0, 1) := by decide +kernel
theorem dX5_act_41 : decode cX5_act 41 = .ok (.getfield 49, 3) := by decide +kernel
theorem dX5_act_44 : decode cX5_act 44 = .ok (.aload_n 0, 1) := by decide +kernel
theorem dX5_act_45 : decode cX5_act 45 = .ok (.getfield 10, 3) := by decide +kernel
theorem dX5_act_48 : decode cX5_act 48 = .ok (.getfield 113, 3) := by decide +kernel
theorem dX5_act_51 : decode cX5_act 51 = .ok (.iconst 0, 1) := by decide +kernel
theorem dX5_act_52 : decode cX5_act 52 = .ok (.aaload, 1) := by decide +kernel
theorem dX5_act_53 : decode cX5_act 53 = .ok (.iload 4, 2) := by decide +kernel
theorem dX5_act_55 : decode cX5_act 55 = .ok (.iaload, 1) := by decide +kernel
theorem dX5_act_56 : decode cX5_act 56 = .ok (.iload 4, 2) := by decide +kernel
theorem dX5_act_58 : decode cX5_act 58 = .ok (.aload_n 0, 1) := by decide +kernel
theorem dX5_act_59 : decode cX5_act 59 = .ok (.getfield 10, 3) := by decide +kernel
theorem dX5_act_62 : decode cX5_act 62 = .ok (.getfield 113, 3) := by decide +kernel
theorem dX5_act_65 : decode cX5_act 65 = .ok (.iconst 1, 1) := by decide +kernel
theorem dX5_act_66 : decode cX5_act 66 = .ok (.aaload, 1) := by decide +kernel
theorem dX5_act_67 : decode cX5_act 67 = .ok (.iload 4, 2) := by decide +kernel
theorem dX5_act_69 : decode cX5_act 69 = .ok (.iaload, 1) := by decide +kernel
theorem dX5_act_70 : decode cX5_act 70 = .ok (.invokevirtual 263, 3) := by decide +kernel
theorem dX5_act_73 : decode cX5_act 73 = .ok (.iload_n 2, 1) := by decide +kernel
theorem dX5_act_74 : decode cX5_act 74 = .ok (.tableswitch 82 0 3 #[30, 43, 56, 69], 30) := by decide +kernel
theorem dX5_act_104 : decode cX5_act 104 = .ok (.aload_n 0, 1) := by decide +kernel
theorem dX5_act_105 : decode cX5_act 105 = .ok (.getfield 49, 3) := by decide +kernel
theorem dX5_act_108 : decode cX5_act 108 = .ok (.iload_n 3, 1) := by decide +kernel
theorem dX5_act_109 : decode cX5_act 109 = .ok (.invokevirtual 266, 3) := by decide +kernel
theorem dX5_act_112 : decode cX5_act 112 = .ok (.istore 5, 2) := by decide +kernel
theorem dX5_act_114 : decode cX5_act 114 = .ok (.goto 45, 3) := by decide +kernel
theorem dX5_act_117 : decode cX5_act 117 = .ok (.aload_n 0, 1) := by decide +kernel
theorem dX5_act_118 : decode cX5_act 118 = .ok (.getfield 49, 3) := by decide +kernel
theorem dX5_act_121 : decode cX5_act 121 = .ok (.iload_n 3, 1) := by decide +kernel
theorem dX5_act_122 : decode cX5_act 122 = .ok (.invokevirtual 268, 3) := by decide +kernel
theorem dX5_act_125 : decode cX5_act 125 = .ok (.istore 5, 2) := by decide +kernel
theorem dX5_act_127 : decode cX5_act 127 = .ok (.goto 32, 3) := by decide +kernel
theorem dX5_act_130 : decode cX5_act 130 = .ok (.aload_n 0, 1) := by decide +kernel
theorem dX5_act_131 : decode cX5_act 131 = .ok (.getfield 49, 3) := by decide +kernel
theorem dX5_act_134 : decode cX5_act 134 = .ok (.iload_n 3, 1) := by decide +kernel
theorem dX5_act_135 : decode cX5_act 135 = .ok (.invokevirtual 271, 3) := by decide +kernel
theorem dX5_act_138 : decode cX5_act 138 = .ok (.istore 5, 2) := by decide +kernel
theorem dX5_act_140 : decode cX5_act 140 = .ok (.goto 19, 3) := by decide +kernel
theorem dX5_act_143 : decode cX5_act 143 = .ok (.aload_n 0, 1) := by decide +kernel
theorem dX5_act_144 : decode cX5_act 144 = .ok (.getfield 49, 3) := by decide +kernel
theorem dX5_act_147 : decode cX5_act 147 = .ok (.iload_n 3, 1) := by decide +kernel
theorem dX5_act_148 : decode cX5_act 148 = .ok (.invokevirtual 274, 3) := by decide +kernel
theorem dX5_act_151 : decode cX5_act 151 = .ok (.istore 5, 2) := by decide +kernel
theorem dX5_act_153 : decode cX5_act 153 = .ok (.goto 6, 3) := by decide +kernel
theorem dX5_act_156 : decode cX5_act 156 = .ok (.iconst 0, 1) := by decide +kernel
theorem dX5_act_157 : decode cX5_act 157 = .ok (.istore 5, 2) := by decide +kernel
theorem dX5_act_159 : decode cX5_act 159 = .ok (.aload_n 0, 1) := by decide +kernel
theorem dX5_act_160 : decode cX5_act 160 = .ok (.getfield 49, 3) := by decide +kernel
theorem dX5_act_163 : decode cX5_act 163 = .ok (.getfield 277, 3) := by decide +kernel
theorem dX5_act_166 : decode cX5_act 166 = .ok (.ifCond .eq 8, 3) := by decide +kernel
theorem dX5_act_169 : decode cX5_act 169 = .ok (.bipush (-15), 2) := by decide +kernel
theorem dX5_act_171 : decode cX5_act 171 = .ok (.goto 5, 3) := by decide +kernel
theorem dX5_act_174 : decode cX5_act 174 = .ok (.iload 5, 2) := by decide +kernel
theorem dX5_act_176 : decode cX5_act 176 = .ok (.ireturn, 1) := by decide +kernel
set_option maxHeartbeats 400000 in
set_option maxRecDepth 20000 in
theorem t_X5_act (l : Launch) (ad : Nat → Nat) (D : va_G) (cs : Nat → ClassId) (h : Nat → Nat) (σ : Nat → Nat → Int32) (pre post : va_W) (n : Nat) (g t x : Int32) (hN : σ 0 0 = nI n) (hn : n ≤ 8) (hR : rgM n (σ 0)) : CTi l yX5_act cX5_act 6 .int ({ frames := 7, cells := 0, slots := 0, locals := 147 }) ad D (tysW cs) (pre ++ (wX cs h σ ++ post)) [.ref (h 0), .int g, .int t, .int x] (gateI (inB g 0 3 && decide (σ 18 g.toNatClampNeg = 1 ∧ oneB n (σ 19 g.toNatClampNeg) = true)) (if inB t 0 3 = true then (if acD t (σ 0 (8 + 5 * (σ 19 g.toNatClampNeg).toNatClampNeg)) (σ 19 g.toNatClampNeg) (σ 0 (8 + 5 * (σ 19 g.toNatClampNeg).toNatClampNeg + 1)) = 0 then acV t (σ 0 (8 + 5 * (σ 19 g.toNatClampNeg).toNatClampNeg)) (σ 19 g.toNatClampNeg) (σ 0 (8 + 5 * (σ 19 g.toNatClampNeg).toNatClampNeg + 1)) x else -15) else 0) 0) (pre ++ (wX cs h (su (su (su (su (su (su σ 21 (gateF (inB g 0 3 && decide (σ 18 g.toNatClampNeg = 1 ∧ oneB n (σ 19 g.toNatClampNeg) = true)) (if inB t 0 3 = true then trB (σ 21) 0 (acC t (σ 0 (8 + 5 * (σ 19 g.toNatClampNeg).toNatClampNeg)) (σ 19 g.toNatClampNeg) (σ 0 (8 + 5 * (σ 19 g.toNatClampNeg).toNatClampNeg + 1))) else σ 21) (σ 21))) 22 (gateF (inB g 0 3 && decide (σ 18 g.toNatClampNeg = 1 ∧ oneB n (σ 19 g.toNatClampNeg) = true)) (if inB t 0 3 = true then fun _ => nI (trR 0 (acC t (σ 0 (8 + 5 * (σ 19 g.toNatClampNeg).toNatClampNeg)) (σ 19 g.toNatClampNeg) (σ 0 (8 + 5 * (σ 19 g.toNatClampNeg).toNatClampNeg + 1)))) else fun _ => 0) (fun _ => 0))) 23 (gateF (inB g 0 3 && decide (σ 18 g.toNatClampNeg = 1 ∧ oneB n (σ 19 g.toNatClampNeg) = true)) (fun _ => σ 0 (8 + 5 * (σ 19 g.toNatClampNeg).toNatClampNeg)) (σ 23))) 24 (gateF (inB g 0 3 && decide (σ 18 g.toNatClampNeg = 1 ∧ oneB n (σ 19 g.toNatClampNeg) = true)) (fun _ => σ 19 g.toNatClampNeg) (σ 24))) 25 (gateF (inB g 0 3 && decide (σ 18 g.toNatClampNeg = 1 ∧ oneB n (σ 19 g.toNatClampNeg) = true)) (fun _ => σ 0 (8 + 5 * (σ 19 g.toNatClampNeg).toNatClampNeg + 1)) (σ 25))) 26 (gateF (inB g 0 3 && decide (σ 18 g.toNatClampNeg = 1 ∧ oneB n (σ 19 g.toNatClampNeg) = true)) (if inB t 0 3 = true then fun _ => acD t (σ 0 (8 + 5 * (σ 19 g.toNatClampNeg).toNatClampNeg)) (σ 19 g.toNatClampNeg) (σ 0 (8 + 5 * (σ 19 g.toNatClampNeg).toNatClampNeg + 1)) else fun _ => 0) (fun _ => 0))) ++ post)) := by
  refine CTi.of (lv0 := [(0, .ref (h 0)), (1, .int g), (2, .int t), (3, .int x)]) (by decide) rfl (Nat.le_of_ble_eq_true rfl) (fun p e s m args below meth c A C hr hlk => ?_)
  have C : Cx p s m args c cX5_act 6 RX5 ad D (tysW cs) A := C
  refine r_aload_n (pc := 0) C 0 dX5_act_0 rfl rfl ?_
  refine xg_thing (pc := 1) C fl_RX5_49 dX5_act_1 ?_
  refine rc_Vv (pc := 4) C (t_X4_forgetTrace l ad D cs h σ pre post   ) mv_X4_forgetTrace ml_RX5_260 rfl ⟨Nat.le_of_ble_eq_true rfl, Nat.le_of_ble_eq_true rfl⟩ ⟨rfl, rfl⟩ (q0 := 60) rfl rfl rfl rfl rfl rfl (Nat.le_of_ble_eq_true rfl) dX5_act_4 ?_
  refine r_iload_n (pc := 7) C 1 dX5_act_7 rfl rfl ?_
  refine rc_Si (pc := 8) C (t_X5_isPlace l ad D (tysW cs) (wX cs h (su (su σ 22 (fun _ => 0)) 26 (fun _ => 0))) pre post  g ) ms_X5_isPlace ml_RX5_190 rfl ⟨Nat.le_of_ble_eq_true rfl, Nat.le_of_ble_eq_true rfl⟩ ⟨rfl, rfl⟩ rfl rfl rfl (Nat.le_of_ble_eq_true rfl) dX5_act_8 ?_
  refine r_if_eq (pc := 11) C 27 dX5_act_11 (by decide) (fun c_1 => ?_) (fun c_1 => ?_)
  · skip
    have c_1 := bI_0.mp c_1
    refine r_iconst (pc := 27) C 0 dX5_act_27 (by decide) ?_
    exact r_iret (pc := 28) C hr hlk dX5_act_28 rfl (by first | rfl | (simp [gateI, gateF, acD, acV, acC, *]; done) | simp_all [gateI, gateF, acD, acV, acC]) (by rw [show (gateF (inB g 0 3 && decide (σ 18 g.toNatClampNeg = 1 ∧ oneB n (σ 19 g.toNatClampNeg) = true)) (if inB t 0 3 = true then trB (σ 21) 0 (acC t (σ 0 (8 + 5 * (σ 19 g.toNatClampNeg).toNatClampNeg)) (σ 19 g.toNatClampNeg) (σ 0 (8 + 5 * (σ 19 g.toNatClampNeg).toNatClampNeg + 1))) else σ 21) (σ 21) : Nat → Int32) = σ 21 from (by first | rfl | (simp [gateI, gateF, acD, acV, acC, *]; done) | simp_all [gateI, gateF, acD, acV, acC]), show (gateF (inB g 0 3 && decide (σ 18 g.toNatClampNeg = 1 ∧ oneB n (σ 19 g.toNatClampNeg) = true)) (if inB t 0 3 = true then fun _ => nI (trR 0 (acC t (σ 0 (8 + 5 * (σ 19 g.toNatClampNeg).toNatClampNeg)) (σ 19 g.toNatClampNeg) (σ 0 (8 + 5 * (σ 19 g.toNatClampNeg).toNatClampNeg + 1)))) else fun _ => 0) (fun _ => 0) : Nat → Int32) = fun _ => 0 from (by first | rfl | (simp [gateI, gateF, acD, acV, acC, *]; done) | simp_all [gateI, gateF, acD, acV, acC]), show (gateF (inB g 0 3 && decide (σ 18 g.toNatClampNeg = 1 ∧ oneB n (σ 19 g.toNatClampNeg) = true)) (fun _ => σ 0 (8 + 5 * (σ 19 g.toNatClampNeg).toNatClampNeg)) (σ 23) : Nat → Int32) = σ 23 from (by first | rfl | (simp [gateI, gateF, acD, acV, acC, *]; done) | simp_all [gateI, gateF, acD, acV, acC]), show (gateF (inB g 0 3 && decide (σ 18 g.toNatClampNeg = 1 ∧ oneB n (σ 19 g.toNatClampNeg) = true)) (fun _ => σ 19 g.toNatClampNeg) (σ 24) : Nat → Int32) = σ 24 from (by first | rfl | (simp [gateI, gateF, acD, acV, acC, *]; done) | simp_all [gateI, gateF, acD, acV, acC]), show (gateF (inB g 0 3 && decide (σ 18 g.toNatClampNeg = 1 ∧ oneB n (σ 19 g.toNatClampNeg) = true)) (fun _ => σ 0 (8 + 5 * (σ 19 g.toNatClampNeg).toNatClampNeg + 1)) (σ 25) : Nat → Int32) = σ 25 from (by first | rfl | (simp [gateI, gateF, acD, acV, acC, *]; done) | simp_all [gateI, gateF, acD, acV, acC]), show (gateF (inB g 0 3 && decide (σ 18 g.toNatClampNeg = 1 ∧ oneB n (σ 19 g.toNatClampNeg) = true)) (if inB t 0 3 = true then fun _ => acD t (σ 0 (8 + 5 * (σ 19 g.toNatClampNeg).toNatClampNeg)) (σ 19 g.toNatClampNeg) (σ 0 (8 + 5 * (σ 19 g.toNatClampNeg).toNatClampNeg + 1)) else fun _ => 0) (fun _ => 0) : Nat → Int32) = fun _ => 0 from (by first | rfl | (simp [gateI, gateF, acD, acV, acC, *]; done) | simp_all [gateI, gateF, acD, acV, acC])] <;> rfl)
  · skip
    have c_1 := bI_n.mp c_1
    obtain ⟨f, l_f, h_f, rfl⟩ := rng_nat 0 3 (by decide) (by decide) c_1
    have e_f : (nI f).toNatClampNeg = f := nI_clamp (by omega)
    refine r_aload_n (pc := 14) C 0 dX5_act_14 rfl rfl ?_
    refine r_aload_n (pc := 15) C 0 dX5_act_15 rfl rfl ?_
    refine xg_shelves (pc := 16) C fl_RX5_42 dX5_act_16 ?_
    refine r_iload_n (pc := 19) C 1 dX5_act_19 rfl rfl ?_
    refine xa_shelves (pc := 20) C f (rfl) (by omega) dX5_act_20 ?_
    refine rc_Vi (pc := 21) C (t_X5_holdsPersonNow' l ad D cs h (su (su σ 22 (fun _ => 0)) 26 (fun _ => 0)) pre post (σ 0) (((su_nn (by decide)).trans (su_nn (by decide)))) (σ 18) (((su_nn (by decide)).trans (su_nn (by decide)))) (σ 19) (((su_nn (by decide)).trans (su_nn (by decide)))) n f hN hn (by omega)) mv_X5_holdsPersonNow ml_RX5_253 rfl ⟨Nat.le_of_ble_eq_true rfl, Nat.le_of_ble_eq_true rfl⟩ ⟨rfl, rfl⟩ (q0 := 0) rfl rfl rfl rfl rfl rfl (Nat.le_of_ble_eq_true rfl) dX5_act_21 ?_
    refine r_if_ne (pc := 24) C 29 dX5_act_24 (by decide) (fun c_2 => ?_) (fun c_2 => ?_)
    · skip
      have c_2 := bI_n.mp c_2
      obtain ⟨j, h_j, e_q⟩ := one_nat (by omega) c_2.2
      have e_j : (nI j).toNatClampNeg = j := nI_clamp (by omega)
      refine r_aload_n (pc := 29) C 0 dX5_act_29 rfl rfl ?_
      refine xg_shelves (pc := 30) C fl_RX5_42 dX5_act_30 ?_
      refine r_iload_n (pc := 33) C 1 dX5_act_33 rfl rfl ?_
      refine xa_shelves (pc := 34) C f (rfl) (by omega) dX5_act_34 ?_
      refine xg_f_number (by omega) (pc := 35) C fl_RX5_250 dX5_act_35 (σ 19 f) (congrFun (((su_nn (by decide)).trans (su_nn (by decide)))) f) ?_
      refine r_eqi (y := nI j) (e_q) ?_
      refine r_istore (pc := 38) C [(4, .int (nI j)), (0, .ref (h 0)), (1, .int (nI f)), (2, .int t), (3, .int x)] dX5_act_38 (by decide) rfl ?_
      refine r_aload_n (pc := 40) C 1 dX5_act_40 rfl rfl ?_
      refine xg_thing (pc := 41) C fl_RX5_49 dX5_act_41 ?_
      refine r_aload_n (pc := 44) C 1 dX5_act_44 rfl rfl ?_
      refine xg_now (pc := 45) C fl_RX5_10 dX5_act_45 ?_
      refine xg_has_0 (pc := 48) C fl_RX5_113 dX5_act_48 ?_
      refine r_iconst (pc := 51) C 0 dX5_act_51 (by decide) ?_
      refine xa_has_0 (pc := 52) C 0 (rfl) (by omega) dX5_act_52 ?_
      refine r_iload (pc := 53) C 0 dX5_act_53 rfl ?_
      refine xl_row_0 (pc := 55) C 0 (by decide) j (rfl) (by omega) dX5_act_55 (σ 0 (8 + 5 * j)) (congrFun (((su_nn (by decide)).trans (su_nn (by decide)))) _) ?_
      refine r_iload (pc := 56) C 0 dX5_act_56 rfl ?_
      refine r_aload_n (pc := 58) C 1 dX5_act_58 rfl rfl ?_
      refine xg_now (pc := 59) C fl_RX5_10 dX5_act_59 ?_
      refine xg_has_0 (pc := 62) C fl_RX5_113 dX5_act_62 ?_
      refine r_iconst (pc := 65) C 1 dX5_act_65 (by decide) ?_
      refine xa_has_0 (pc := 66) C 1 (rfl) (by omega) dX5_act_66 ?_
      refine r_iload (pc := 67) C 0 dX5_act_67 rfl ?_
      refine xl_row_0 (pc := 69) C 1 (by decide) j (rfl) (by omega) dX5_act_69 (σ 0 (8 + 5 * j + 1)) (congrFun (((su_nn (by decide)).trans (su_nn (by decide)))) _) ?_
      refine rc_Vv (pc := 70) C (t_X4_become l ad D cs h (su (su σ 22 (fun _ => 0)) 26 (fun _ => 0)) pre post  (σ 0 (8 + 5 * j)) (nI j) (σ 0 (8 + 5 * j + 1)) ) mv_X4_become ml_RX5_263 rfl ⟨Nat.le_of_ble_eq_true rfl, Nat.le_of_ble_eq_true rfl⟩ ⟨rfl, rfl⟩ (q0 := 60) rfl rfl rfl rfl rfl rfl (Nat.le_of_ble_eq_true rfl) dX5_act_70 ?_
      refine r_blk (blk' := wX cs h (su (su (su (su (su σ 22 (fun _ => 0)) 23 (fun _ => (σ 0 (8 + 5 * j)))) 24 (fun _ => (nI j))) 25 (fun _ => (σ 0 (8 + 5 * j + 1)))) 26 (fun _ => 0))) (congrArg (wX cs h) (by rw [su_cm (k := 26) (j := 23) (by decide), su_cm (k := 26) (j := 24) (by decide), su_cm (k := 26) (j := 25) (by decide)])) ?_
      refine r_iload_n (pc := 73) C 3 dX5_act_73 rfl rfl ?_
      have w_4 := sw_cases t 0 3 (by decide)
      rcases w_4 with w_4 | w_4
      · skip
        refine r_tableOut (pc := 74) C 30 156 dX5_act_74 w_4 (by decide) ?_
        have w_4_0 : ¬ t = 0 := fun q => by rw [q] at w_4; revert w_4; decide
        have w_4_1 : ¬ t = 1 := fun q => by rw [q] at w_4; revert w_4; decide
        have w_4_2 : ¬ t = 2 := fun q => by rw [q] at w_4; revert w_4; decide
        have w_4_3 : ¬ t = 3 := fun q => by rw [q] at w_4; revert w_4; decide
        have hio : inB t 0 3 = false := in_out w_4
        refine r_iconst (pc := 156) C 0 dX5_act_156 (by decide) ?_
        refine r_istore (pc := 157) C [(5, .int 0), (4, .int (nI j)), (0, .ref (h 0)), (1, .int (nI f)), (2, .int t), (3, .int x)] dX5_act_157 (by decide) rfl ?_
        refine r_aload_n (pc := 159) C 2 dX5_act_159 rfl rfl ?_
        refine xg_thing (pc := 160) C fl_RX5_49 dX5_act_160 ?_
        refine xg_h_isPartedBy0 (pc := 163) C fl_RX5_277 dX5_act_163 0 (congrFun (su_at) 0) ?_
        refine r_if_eq (pc := 166) C 174 dX5_act_166 (by decide) (fun c_5 => ?_) (fun c_5 => ?_)
        · skip
          revert c_5; intro c_5
          refine r_iload (pc := 174) C 0 dX5_act_174 rfl ?_
          exact r_iret (pc := 176) C hr hlk dX5_act_176 rfl (by first | rfl | (simp [gateI, gateF, acD, acV, acC, *]; done) | simp_all [gateI, gateF, acD, acV, acC]) (by rw [show (gateF (inB (nI f) 0 3 && decide (σ 18 (nI f).toNatClampNeg = 1 ∧ oneB n (σ 19 (nI f).toNatClampNeg) = true)) (if inB t 0 3 = true then trB (σ 21) 0 (acC t (σ 0 (8 + 5 * (σ 19 (nI f).toNatClampNeg).toNatClampNeg)) (σ 19 (nI f).toNatClampNeg) (σ 0 (8 + 5 * (σ 19 (nI f).toNatClampNeg).toNatClampNeg + 1))) else σ 21) (σ 21) : Nat → Int32) = σ 21 from (by first | rfl | (simp [gateI, gateF, acD, acV, acC, *]; done) | simp_all [gateI, gateF, acD, acV, acC]), show (gateF (inB (nI f) 0 3 && decide (σ 18 (nI f).toNatClampNeg = 1 ∧ oneB n (σ 19 (nI f).toNatClampNeg) = true)) (if inB t 0 3 = true then fun _ => nI (trR 0 (acC t (σ 0 (8 + 5 * (σ 19 (nI f).toNatClampNeg).toNatClampNeg)) (σ 19 (nI f).toNatClampNeg) (σ 0 (8 + 5 * (σ 19 (nI f).toNatClampNeg).toNatClampNeg + 1)))) else fun _ => 0) (fun _ => 0) : Nat → Int32) = fun _ => 0 from (by first | rfl | (simp [gateI, gateF, acD, acV, acC, *]; done) | simp_all [gateI, gateF, acD, acV, acC]), show (gateF (inB (nI f) 0 3 && decide (σ 18 (nI f).toNatClampNeg = 1 ∧ oneB n (σ 19 (nI f).toNatClampNeg) = true)) (fun _ => σ 0 (8 + 5 * (σ 19 (nI f).toNatClampNeg).toNatClampNeg)) (σ 23) : Nat → Int32) = fun _ => (σ 0 (8 + 5 * j)) from (by first | rfl | (simp [gateI, gateF, acD, acV, acC, *]; done) | simp_all [gateI, gateF, acD, acV, acC]), show (gateF (inB (nI f) 0 3 && decide (σ 18 (nI f).toNatClampNeg = 1 ∧ oneB n (σ 19 (nI f).toNatClampNeg) = true)) (fun _ => σ 19 (nI f).toNatClampNeg) (σ 24) : Nat → Int32) = fun _ => (nI j) from (by first | rfl | (simp [gateI, gateF, acD, acV, acC, *]; done) | simp_all [gateI, gateF, acD, acV, acC]), show (gateF (inB (nI f) 0 3 && decide (σ 18 (nI f).toNatClampNeg = 1 ∧ oneB n (σ 19 (nI f).toNatClampNeg) = true)) (fun _ => σ 0 (8 + 5 * (σ 19 (nI f).toNatClampNeg).toNatClampNeg + 1)) (σ 25) : Nat → Int32) = fun _ => (σ 0 (8 + 5 * j + 1)) from (by first | rfl | (simp [gateI, gateF, acD, acV, acC, *]; done) | simp_all [gateI, gateF, acD, acV, acC]), show (gateF (inB (nI f) 0 3 && decide (σ 18 (nI f).toNatClampNeg = 1 ∧ oneB n (σ 19 (nI f).toNatClampNeg) = true)) (if inB t 0 3 = true then fun _ => acD t (σ 0 (8 + 5 * (σ 19 (nI f).toNatClampNeg).toNatClampNeg)) (σ 19 (nI f).toNatClampNeg) (σ 0 (8 + 5 * (σ 19 (nI f).toNatClampNeg).toNatClampNeg + 1)) else fun _ => 0) (fun _ => 0) : Nat → Int32) = fun _ => 0 from (by first | rfl | (simp [gateI, gateF, acD, acV, acC, *]; done) | simp_all [gateI, gateF, acD, acV, acC])] <;> rfl)
        · skip
          revert c_5; intro c_5
          exact absurd c_5 (by decide)
      · obtain ⟨i_4, hi_4, w_4⟩ := w_4
        have hc_4 : i_4 = 0 ∨ i_4 = 1 ∨ i_4 = 2 ∨ i_4 = 3 := by omega
        rcases hc_4 with rfl | rfl | rfl | rfl
        · skip
          refine r_tableIn (pc := 74) C 30 104 dX5_act_74 (by rw [w_4]; decide) (by rw [w_4]; decide) (by rw [w_4]; rfl) (by decide) ?_
          have w_4 : t = 0 := Int32.toInt_inj.mp (by rw [w_4]; rfl)
          have hio : inB t 0 3 = true := by rw [w_4]; decide
          refine r_aload_n (pc := 104) C 1 dX5_act_104 rfl rfl ?_
          refine xg_thing (pc := 105) C fl_RX5_49 dX5_act_105 ?_
          refine r_iload_n (pc := 108) C 4 dX5_act_108 rfl rfl ?_
          refine rc_Vi (pc := 109) C (t_X4_sees' l ad D cs h (su (su (su (su (su σ 22 (fun _ => 0)) 23 (fun _ => (σ 0 (8 + 5 * j)))) 24 (fun _ => (nI j))) 25 (fun _ => (σ 0 (8 + 5 * j + 1)))) 26 (fun _ => 0)) pre post (σ 21) ((((((su_nn (by decide)).trans (su_nn (by decide))).trans (su_nn (by decide))).trans (su_nn (by decide))).trans (su_nn (by decide)))) (fun _ => 0) (((((su_nn (by decide)).trans (su_nn (by decide))).trans (su_nn (by decide))).trans (su_nn (by decide))).trans su_at) (fun _ => (σ 0 (8 + 5 * j))) ((((su_nn (by decide)).trans (su_nn (by decide))).trans (su_nn (by decide))).trans su_at) (fun _ => (nI j)) (((su_nn (by decide)).trans (su_nn (by decide))).trans su_at) (fun _ => (σ 0 (8 + 5 * j + 1))) ((su_nn (by decide)).trans su_at) 0 x rfl (by omega)) mv_X4_sees ml_RX5_266 rfl ⟨Nat.le_of_ble_eq_true rfl, Nat.le_of_ble_eq_true rfl⟩ ⟨rfl, rfl⟩ (q0 := 60) rfl rfl rfl rfl rfl rfl (Nat.le_of_ble_eq_true rfl) dX5_act_109 ?_
          refine r_blk (blk' := wX cs h (su (su (su (su (su (su σ 21 (trB (σ 21) 0 (seC ((fun _ => (σ 0 (8 + 5 * j))) 0)))) 22 (fun _ => nI (trR 0 (seC ((fun _ => (σ 0 (8 + 5 * j))) 0))))) 23 (fun _ => (σ 0 (8 + 5 * j)))) 24 (fun _ => (nI j))) 25 (fun _ => (σ 0 (8 + 5 * j + 1)))) 26 (fun _ => 0))) (congrArg (wX cs h) (by rw [su_cm (k := 26) (j := 21) (by decide), su_cm (k := 25) (j := 21) (by decide), su_cm (k := 24) (j := 21) (by decide), su_cm (k := 23) (j := 21) (by decide), su_cm (k := 22) (j := 21) (by decide), su_cm (k := 26) (j := 22) (by decide), su_cm (k := 25) (j := 22) (by decide), su_cm (k := 24) (j := 22) (by decide), su_cm (k := 23) (j := 22) (by decide), su_su (k := 22)])) ?_
          refine r_istore (pc := 112) C [(5, .int (seV ((fun _ => (σ 0 (8 + 5 * j))) 0) ((fun _ => (nI j)) 0) ((fun _ => (σ 0 (8 + 5 * j + 1))) 0) x)), (4, .int (nI j)), (0, .ref (h 0)), (1, .int (nI f)), (2, .int t), (3, .int x)] dX5_act_112 (by decide) rfl ?_
          refine r_goto (pc := 114) C 159 dX5_act_114 (by decide) ?_
          refine r_aload_n (pc := 159) C 2 dX5_act_159 rfl rfl ?_
          refine xg_thing (pc := 160) C fl_RX5_49 dX5_act_160 ?_
          refine xg_h_isPartedBy0 (pc := 163) C fl_RX5_277 dX5_act_163 0 (congrFun (su_at) 0) ?_
          refine r_if_eq (pc := 166) C 174 dX5_act_166 (by decide) (fun c_6 => ?_) (fun c_6 => ?_)
          · skip
            revert c_6; intro c_6
            refine r_iload (pc := 174) C 0 dX5_act_174 rfl ?_
            exact r_iret (pc := 176) C hr hlk dX5_act_176 rfl (by first | rfl | (simp [gateI, gateF, acD, acV, acC, *]; done) | simp_all [gateI, gateF, acD, acV, acC]) (by rw [show (gateF (inB (nI f) 0 3 && decide (σ 18 (nI f).toNatClampNeg = 1 ∧ oneB n (σ 19 (nI f).toNatClampNeg) = true)) (if inB t 0 3 = true then trB (σ 21) 0 (acC t (σ 0 (8 + 5 * (σ 19 (nI f).toNatClampNeg).toNatClampNeg)) (σ 19 (nI f).toNatClampNeg) (σ 0 (8 + 5 * (σ 19 (nI f).toNatClampNeg).toNatClampNeg + 1))) else σ 21) (σ 21) : Nat → Int32) = trB (σ 21) 0 (seC ((fun _ => (σ 0 (8 + 5 * j))) 0)) from (by first | rfl | (simp [gateI, gateF, acD, acV, acC, *]; done) | simp_all [gateI, gateF, acD, acV, acC]), show (gateF (inB (nI f) 0 3 && decide (σ 18 (nI f).toNatClampNeg = 1 ∧ oneB n (σ 19 (nI f).toNatClampNeg) = true)) (if inB t 0 3 = true then fun _ => nI (trR 0 (acC t (σ 0 (8 + 5 * (σ 19 (nI f).toNatClampNeg).toNatClampNeg)) (σ 19 (nI f).toNatClampNeg) (σ 0 (8 + 5 * (σ 19 (nI f).toNatClampNeg).toNatClampNeg + 1)))) else fun _ => 0) (fun _ => 0) : Nat → Int32) = fun _ => nI (trR 0 (seC ((fun _ => (σ 0 (8 + 5 * j))) 0))) from (by first | rfl | (simp [gateI, gateF, acD, acV, acC, *]; done) | simp_all [gateI, gateF, acD, acV, acC]), show (gateF (inB (nI f) 0 3 && decide (σ 18 (nI f).toNatClampNeg = 1 ∧ oneB n (σ 19 (nI f).toNatClampNeg) = true)) (fun _ => σ 0 (8 + 5 * (σ 19 (nI f).toNatClampNeg).toNatClampNeg)) (σ 23) : Nat → Int32) = fun _ => (σ 0 (8 + 5 * j)) from (by first | rfl | (simp [gateI, gateF, acD, acV, acC, *]; done) | simp_all [gateI, gateF, acD, acV, acC]), show (gateF (inB (nI f) 0 3 && decide (σ 18 (nI f).toNatClampNeg = 1 ∧ oneB n (σ 19 (nI f).toNatClampNeg) = true)) (fun _ => σ 19 (nI f).toNatClampNeg) (σ 24) : Nat → Int32) = fun _ => (nI j) from (by first | rfl | (simp [gateI, gateF, acD, acV, acC, *]; done) | simp_all [gateI, gateF, acD, acV, acC]), show (gateF (inB (nI f) 0 3 && decide (σ 18 (nI f).toNatClampNeg = 1 ∧ oneB n (σ 19 (nI f).toNatClampNeg) = true)) (fun _ => σ 0 (8 + 5 * (σ 19 (nI f).toNatClampNeg).toNatClampNeg + 1)) (σ 25) : Nat → Int32) = fun _ => (σ 0 (8 + 5 * j + 1)) from (by first | rfl | (simp [gateI, gateF, acD, acV, acC, *]; done) | simp_all [gateI, gateF, acD, acV, acC]), show (gateF (inB (nI f) 0 3 && decide (σ 18 (nI f).toNatClampNeg = 1 ∧ oneB n (σ 19 (nI f).toNatClampNeg) = true)) (if inB t 0 3 = true then fun _ => acD t (σ 0 (8 + 5 * (σ 19 (nI f).toNatClampNeg).toNatClampNeg)) (σ 19 (nI f).toNatClampNeg) (σ 0 (8 + 5 * (σ 19 (nI f).toNatClampNeg).toNatClampNeg + 1)) else fun _ => 0) (fun _ => 0) : Nat → Int32) = fun _ => 0 from (by first | rfl | (simp [gateI, gateF, acD, acV, acC, *]; done) | simp_all [gateI, gateF, acD, acV, acC])] <;> rfl)
          · skip
            revert c_6; intro c_6
            exact absurd c_6 (by decide)
        · skip
          refine r_tableIn (pc := 74) C 30 117 dX5_act_74 (by rw [w_4]; decide) (by rw [w_4]; decide) (by rw [w_4]; rfl) (by decide) ?_
          have w_4 : t = 1 := Int32.toInt_inj.mp (by rw [w_4]; rfl)
          have hio : inB t 0 3 = true := by rw [w_4]; decide
          refine r_aload_n (pc := 117) C 1 dX5_act_117 rfl rfl ?_
          refine xg_thing (pc := 118) C fl_RX5_49 dX5_act_118 ?_
          refine r_iload_n (pc := 121) C 4 dX5_act_121 rfl rfl ?_
          refine rc_Vi (pc := 122) C (t_X4_pays' l ad D cs h (su (su (su (su (su σ 22 (fun _ => 0)) 23 (fun _ => (σ 0 (8 + 5 * j)))) 24 (fun _ => (nI j))) 25 (fun _ => (σ 0 (8 + 5 * j + 1)))) 26 (fun _ => 0)) pre post (σ 21) ((((((su_nn (by decide)).trans (su_nn (by decide))).trans (su_nn (by decide))).trans (su_nn (by decide))).trans (su_nn (by decide)))) (fun _ => 0) (((((su_nn (by decide)).trans (su_nn (by decide))).trans (su_nn (by decide))).trans (su_nn (by decide))).trans su_at) (fun _ => (σ 0 (8 + 5 * j))) ((((su_nn (by decide)).trans (su_nn (by decide))).trans (su_nn (by decide))).trans su_at) (fun _ => (nI j)) (((su_nn (by decide)).trans (su_nn (by decide))).trans su_at) (fun _ => (σ 0 (8 + 5 * j + 1))) ((su_nn (by decide)).trans su_at) 0 x rfl (by omega)) mv_X4_pays ml_RX5_268 rfl ⟨Nat.le_of_ble_eq_true rfl, Nat.le_of_ble_eq_true rfl⟩ ⟨rfl, rfl⟩ (q0 := 60) rfl rfl rfl rfl rfl rfl (Nat.le_of_ble_eq_true rfl) dX5_act_122 ?_
          refine r_blk (blk' := wX cs h (su (su (su (su (su (su σ 21 (trB (σ 21) 0 (paC ((fun _ => (σ 0 (8 + 5 * j))) 0)))) 22 (fun _ => nI (trR 0 (paC ((fun _ => (σ 0 (8 + 5 * j))) 0))))) 23 (fun _ => (σ 0 (8 + 5 * j)))) 24 (fun _ => (nI j))) 25 (fun _ => (σ 0 (8 + 5 * j + 1)))) 26 (fun _ => 0))) (congrArg (wX cs h) (by rw [su_cm (k := 26) (j := 21) (by decide), su_cm (k := 25) (j := 21) (by decide), su_cm (k := 24) (j := 21) (by decide), su_cm (k := 23) (j := 21) (by decide), su_cm (k := 22) (j := 21) (by decide), su_cm (k := 26) (j := 22) (by decide), su_cm (k := 25) (j := 22) (by decide), su_cm (k := 24) (j := 22) (by decide), su_cm (k := 23) (j := 22) (by decide), su_su (k := 22)])) ?_
          refine r_istore (pc := 125) C [(5, .int (paV ((fun _ => (σ 0 (8 + 5 * j))) 0) ((fun _ => (nI j)) 0) ((fun _ => (σ 0 (8 + 5 * j + 1))) 0) x)), (4, .int (nI j)), (0, .ref (h 0)), (1, .int (nI f)), (2, .int t), (3, .int x)] dX5_act_125 (by decide) rfl ?_
          refine r_goto (pc := 127) C 159 dX5_act_127 (by decide) ?_
          refine r_aload_n (pc := 159) C 2 dX5_act_159 rfl rfl ?_
          refine xg_thing (pc := 160) C fl_RX5_49 dX5_act_160 ?_
          refine xg_h_isPartedBy0 (pc := 163) C fl_RX5_277 dX5_act_163 0 (congrFun (su_at) 0) ?_
          refine r_if_eq (pc := 166) C 174 dX5_act_166 (by decide) (fun c_7 => ?_) (fun c_7 => ?_)
          · skip
            revert c_7; intro c_7
            refine r_iload (pc := 174) C 0 dX5_act_174 rfl ?_
            exact r_iret (pc := 176) C hr hlk dX5_act_176 rfl (by first | rfl | (simp [gateI, gateF, acD, acV, acC, *]; done) | simp_all [gateI, gateF, acD, acV, acC]) (by rw [show (gateF (inB (nI f) 0 3 && decide (σ 18 (nI f).toNatClampNeg = 1 ∧ oneB n (σ 19 (nI f).toNatClampNeg) = true)) (if inB t 0 3 = true then trB (σ 21) 0 (acC t (σ 0 (8 + 5 * (σ 19 (nI f).toNatClampNeg).toNatClampNeg)) (σ 19 (nI f).toNatClampNeg) (σ 0 (8 + 5 * (σ 19 (nI f).toNatClampNeg).toNatClampNeg + 1))) else σ 21) (σ 21) : Nat → Int32) = trB (σ 21) 0 (paC ((fun _ => (σ 0 (8 + 5 * j))) 0)) from (by first | rfl | (simp [gateI, gateF, acD, acV, acC, *]; done) | simp_all [gateI, gateF, acD, acV, acC]), show (gateF (inB (nI f) 0 3 && decide (σ 18 (nI f).toNatClampNeg = 1 ∧ oneB n (σ 19 (nI f).toNatClampNeg) = true)) (if inB t 0 3 = true then fun _ => nI (trR 0 (acC t (σ 0 (8 + 5 * (σ 19 (nI f).toNatClampNeg).toNatClampNeg)) (σ 19 (nI f).toNatClampNeg) (σ 0 (8 + 5 * (σ 19 (nI f).toNatClampNeg).toNatClampNeg + 1)))) else fun _ => 0) (fun _ => 0) : Nat → Int32) = fun _ => nI (trR 0 (paC ((fun _ => (σ 0 (8 + 5 * j))) 0))) from (by first | rfl | (simp [gateI, gateF, acD, acV, acC, *]; done) | simp_all [gateI, gateF, acD, acV, acC]), show (gateF (inB (nI f) 0 3 && decide (σ 18 (nI f).toNatClampNeg = 1 ∧ oneB n (σ 19 (nI f).toNatClampNeg) = true)) (fun _ => σ 0 (8 + 5 * (σ 19 (nI f).toNatClampNeg).toNatClampNeg)) (σ 23) : Nat → Int32) = fun _ => (σ 0 (8 + 5 * j)) from (by first | rfl | (simp [gateI, gateF, acD, acV, acC, *]; done) | simp_all [gateI, gateF, acD, acV, acC]), show (gateF (inB (nI f) 0 3 && decide (σ 18 (nI f).toNatClampNeg = 1 ∧ oneB n (σ 19 (nI f).toNatClampNeg) = true)) (fun _ => σ 19 (nI f).toNatClampNeg) (σ 24) : Nat → Int32) = fun _ => (nI j) from (by first | rfl | (simp [gateI, gateF, acD, acV, acC, *]; done) | simp_all [gateI, gateF, acD, acV, acC]), show (gateF (inB (nI f) 0 3 && decide (σ 18 (nI f).toNatClampNeg = 1 ∧ oneB n (σ 19 (nI f).toNatClampNeg) = true)) (fun _ => σ 0 (8 + 5 * (σ 19 (nI f).toNatClampNeg).toNatClampNeg + 1)) (σ 25) : Nat → Int32) = fun _ => (σ 0 (8 + 5 * j + 1)) from (by first | rfl | (simp [gateI, gateF, acD, acV, acC, *]; done) | simp_all [gateI, gateF, acD, acV, acC]), show (gateF (inB (nI f) 0 3 && decide (σ 18 (nI f).toNatClampNeg = 1 ∧ oneB n (σ 19 (nI f).toNatClampNeg) = true)) (if inB t 0 3 = true then fun _ => acD t (σ 0 (8 + 5 * (σ 19 (nI f).toNatClampNeg).toNatClampNeg)) (σ 19 (nI f).toNatClampNeg) (σ 0 (8 + 5 * (σ 19 (nI f).toNatClampNeg).toNatClampNeg + 1)) else fun _ => 0) (fun _ => 0) : Nat → Int32) = fun _ => 0 from (by first | rfl | (simp [gateI, gateF, acD, acV, acC, *]; done) | simp_all [gateI, gateF, acD, acV, acC])] <;> rfl)
          · skip
            revert c_7; intro c_7
            exact absurd c_7 (by decide)
        · skip
          refine r_tableIn (pc := 74) C 30 130 dX5_act_74 (by rw [w_4]; decide) (by rw [w_4]; decide) (by rw [w_4]; rfl) (by decide) ?_
          have w_4 : t = 2 := Int32.toInt_inj.mp (by rw [w_4]; rfl)
          have hio : inB t 0 3 = true := by rw [w_4]; decide
          refine r_aload_n (pc := 130) C 1 dX5_act_130 rfl rfl ?_
          refine xg_thing (pc := 131) C fl_RX5_49 dX5_act_131 ?_
          refine r_iload_n (pc := 134) C 4 dX5_act_134 rfl rfl ?_
          refine rc_Vi (pc := 135) C (t_X4_parts' l ad D cs h (su (su (su (su (su σ 22 (fun _ => 0)) 23 (fun _ => (σ 0 (8 + 5 * j)))) 24 (fun _ => (nI j))) 25 (fun _ => (σ 0 (8 + 5 * j + 1)))) 26 (fun _ => 0)) pre post (σ 21) ((((((su_nn (by decide)).trans (su_nn (by decide))).trans (su_nn (by decide))).trans (su_nn (by decide))).trans (su_nn (by decide)))) (fun _ => 0) (((((su_nn (by decide)).trans (su_nn (by decide))).trans (su_nn (by decide))).trans (su_nn (by decide))).trans su_at) (fun _ => (σ 0 (8 + 5 * j))) ((((su_nn (by decide)).trans (su_nn (by decide))).trans (su_nn (by decide))).trans su_at) (fun _ => (nI j)) (((su_nn (by decide)).trans (su_nn (by decide))).trans su_at) (fun _ => (σ 0 (8 + 5 * j + 1))) ((su_nn (by decide)).trans su_at) (fun _ => 0) (su_at) 0 x rfl (by omega) rfl) mv_X4_parts ml_RX5_271 rfl ⟨Nat.le_of_ble_eq_true rfl, Nat.le_of_ble_eq_true rfl⟩ ⟨rfl, rfl⟩ (q0 := 60) rfl rfl rfl rfl rfl rfl (Nat.le_of_ble_eq_true rfl) dX5_act_135 ?_
          refine r_blk (blk' := wX cs h (su (su (su (su (su (su σ 21 (trB (σ 21) 0 (ptC ((fun _ => (σ 0 (8 + 5 * j))) 0) ((fun _ => (nI j)) 0) ((fun _ => (σ 0 (8 + 5 * j + 1))) 0)))) 22 (fun _ => nI (trR 0 (ptC ((fun _ => (σ 0 (8 + 5 * j))) 0) ((fun _ => (nI j)) 0) ((fun _ => (σ 0 (8 + 5 * j + 1))) 0))))) 23 (fun _ => (σ 0 (8 + 5 * j)))) 24 (fun _ => (nI j))) 25 (fun _ => (σ 0 (8 + 5 * j + 1)))) 26 (fun _ => ptD ((fun _ => (nI j)) 0) ((fun _ => (σ 0 (8 + 5 * j + 1))) 0)))) (congrArg (wX cs h) (by rw [su_cm (k := 26) (j := 21) (by decide), su_cm (k := 25) (j := 21) (by decide), su_cm (k := 24) (j := 21) (by decide), su_cm (k := 23) (j := 21) (by decide), su_cm (k := 22) (j := 21) (by decide), su_cm (k := 26) (j := 22) (by decide), su_cm (k := 25) (j := 22) (by decide), su_cm (k := 24) (j := 22) (by decide), su_cm (k := 23) (j := 22) (by decide), su_su (k := 22), su_su (k := 26)])) ?_
          refine r_istore (pc := 138) C [(5, .int (ptV ((fun _ => (σ 0 (8 + 5 * j))) 0) ((fun _ => (nI j)) 0) ((fun _ => (σ 0 (8 + 5 * j + 1))) 0) x)), (4, .int (nI j)), (0, .ref (h 0)), (1, .int (nI f)), (2, .int t), (3, .int x)] dX5_act_138 (by decide) rfl ?_
          refine r_goto (pc := 140) C 159 dX5_act_140 (by decide) ?_
          refine r_aload_n (pc := 159) C 2 dX5_act_159 rfl rfl ?_
          refine xg_thing (pc := 160) C fl_RX5_49 dX5_act_160 ?_
          refine xg_h_isPartedBy0 (pc := 163) C fl_RX5_277 dX5_act_163 (ptD ((fun _ => (nI j)) 0) ((fun _ => (σ 0 (8 + 5 * j + 1))) 0)) (congrFun (su_at) 0) ?_
          refine r_if_eq (pc := 166) C 174 dX5_act_166 (by decide) (fun c_8 => ?_) (fun c_8 => ?_)
          · skip
            refine r_iload (pc := 174) C 0 dX5_act_174 rfl ?_
            exact r_iret (pc := 176) C hr hlk dX5_act_176 rfl (by first | rfl | (simp [gateI, gateF, acD, acV, acC, *]; done) | simp_all [gateI, gateF, acD, acV, acC]) (by rw [show (gateF (inB (nI f) 0 3 && decide (σ 18 (nI f).toNatClampNeg = 1 ∧ oneB n (σ 19 (nI f).toNatClampNeg) = true)) (if inB t 0 3 = true then trB (σ 21) 0 (acC t (σ 0 (8 + 5 * (σ 19 (nI f).toNatClampNeg).toNatClampNeg)) (σ 19 (nI f).toNatClampNeg) (σ 0 (8 + 5 * (σ 19 (nI f).toNatClampNeg).toNatClampNeg + 1))) else σ 21) (σ 21) : Nat → Int32) = trB (σ 21) 0 (ptC ((fun _ => (σ 0 (8 + 5 * j))) 0) ((fun _ => (nI j)) 0) ((fun _ => (σ 0 (8 + 5 * j + 1))) 0)) from (by first | rfl | (simp [gateI, gateF, acD, acV, acC, *]; done) | simp_all [gateI, gateF, acD, acV, acC]), show (gateF (inB (nI f) 0 3 && decide (σ 18 (nI f).toNatClampNeg = 1 ∧ oneB n (σ 19 (nI f).toNatClampNeg) = true)) (if inB t 0 3 = true then fun _ => nI (trR 0 (acC t (σ 0 (8 + 5 * (σ 19 (nI f).toNatClampNeg).toNatClampNeg)) (σ 19 (nI f).toNatClampNeg) (σ 0 (8 + 5 * (σ 19 (nI f).toNatClampNeg).toNatClampNeg + 1)))) else fun _ => 0) (fun _ => 0) : Nat → Int32) = fun _ => nI (trR 0 (ptC ((fun _ => (σ 0 (8 + 5 * j))) 0) ((fun _ => (nI j)) 0) ((fun _ => (σ 0 (8 + 5 * j + 1))) 0))) from (by first | rfl | (simp [gateI, gateF, acD, acV, acC, *]; done) | simp_all [gateI, gateF, acD, acV, acC]), show (gateF (inB (nI f) 0 3 && decide (σ 18 (nI f).toNatClampNeg = 1 ∧ oneB n (σ 19 (nI f).toNatClampNeg) = true)) (fun _ => σ 0 (8 + 5 * (σ 19 (nI f).toNatClampNeg).toNatClampNeg)) (σ 23) : Nat → Int32) = fun _ => (σ 0 (8 + 5 * j)) from (by first | rfl | (simp [gateI, gateF, acD, acV, acC, *]; done) | simp_all [gateI, gateF, acD, acV, acC]), show (gateF (inB (nI f) 0 3 && decide (σ 18 (nI f).toNatClampNeg = 1 ∧ oneB n (σ 19 (nI f).toNatClampNeg) = true)) (fun _ => σ 19 (nI f).toNatClampNeg) (σ 24) : Nat → Int32) = fun _ => (nI j) from (by first | rfl | (simp [gateI, gateF, acD, acV, acC, *]; done) | simp_all [gateI, gateF, acD, acV, acC]), show (gateF (inB (nI f) 0 3 && decide (σ 18 (nI f).toNatClampNeg = 1 ∧ oneB n (σ 19 (nI f).toNatClampNeg) = true)) (fun _ => σ 0 (8 + 5 * (σ 19 (nI f).toNatClampNeg).toNatClampNeg + 1)) (σ 25) : Nat → Int32) = fun _ => (σ 0 (8 + 5 * j + 1)) from (by first | rfl | (simp [gateI, gateF, acD, acV, acC, *]; done) | simp_all [gateI, gateF, acD, acV, acC]), show (gateF (inB (nI f) 0 3 && decide (σ 18 (nI f).toNatClampNeg = 1 ∧ oneB n (σ 19 (nI f).toNatClampNeg) = true)) (if inB t 0 3 = true then fun _ => acD t (σ 0 (8 + 5 * (σ 19 (nI f).toNatClampNeg).toNatClampNeg)) (σ 19 (nI f).toNatClampNeg) (σ 0 (8 + 5 * (σ 19 (nI f).toNatClampNeg).toNatClampNeg + 1)) else fun _ => 0) (fun _ => 0) : Nat → Int32) = fun _ => ptD ((fun _ => (nI j)) 0) ((fun _ => (σ 0 (8 + 5 * j + 1))) 0) from (by first | rfl | (simp [gateI, gateF, acD, acV, acC, *]; done) | simp_all [gateI, gateF, acD, acV, acC])] <;> rfl)
          · skip
            refine r_bipush (pc := 169) C (-15) dX5_act_169 (by decide) ?_
            refine r_goto (pc := 171) C 176 dX5_act_171 (by decide) ?_
            exact r_iret (pc := 176) C hr hlk dX5_act_176 rfl (by first | rfl | (simp [gateI, gateF, acD, acV, acC, *]; done) | simp_all [gateI, gateF, acD, acV, acC]) (by rw [show (gateF (inB (nI f) 0 3 && decide (σ 18 (nI f).toNatClampNeg = 1 ∧ oneB n (σ 19 (nI f).toNatClampNeg) = true)) (if inB t 0 3 = true then trB (σ 21) 0 (acC t (σ 0 (8 + 5 * (σ 19 (nI f).toNatClampNeg).toNatClampNeg)) (σ 19 (nI f).toNatClampNeg) (σ 0 (8 + 5 * (σ 19 (nI f).toNatClampNeg).toNatClampNeg + 1))) else σ 21) (σ 21) : Nat → Int32) = trB (σ 21) 0 (ptC ((fun _ => (σ 0 (8 + 5 * j))) 0) ((fun _ => (nI j)) 0) ((fun _ => (σ 0 (8 + 5 * j + 1))) 0)) from (by first | rfl | (simp [gateI, gateF, acD, acV, acC, *]; done) | simp_all [gateI, gateF, acD, acV, acC]), show (gateF (inB (nI f) 0 3 && decide (σ 18 (nI f).toNatClampNeg = 1 ∧ oneB n (σ 19 (nI f).toNatClampNeg) = true)) (if inB t 0 3 = true then fun _ => nI (trR 0 (acC t (σ 0 (8 + 5 * (σ 19 (nI f).toNatClampNeg).toNatClampNeg)) (σ 19 (nI f).toNatClampNeg) (σ 0 (8 + 5 * (σ 19 (nI f).toNatClampNeg).toNatClampNeg + 1)))) else fun _ => 0) (fun _ => 0) : Nat → Int32) = fun _ => nI (trR 0 (ptC ((fun _ => (σ 0 (8 + 5 * j))) 0) ((fun _ => (nI j)) 0) ((fun _ => (σ 0 (8 + 5 * j + 1))) 0))) from (by first | rfl | (simp [gateI, gateF, acD, acV, acC, *]; done) | simp_all [gateI, gateF, acD, acV, acC]), show (gateF (inB (nI f) 0 3 && decide (σ 18 (nI f).toNatClampNeg = 1 ∧ oneB n (σ 19 (nI f).toNatClampNeg) = true)) (fun _ => σ 0 (8 + 5 * (σ 19 (nI f).toNatClampNeg).toNatClampNeg)) (σ 23) : Nat → Int32) = fun _ => (σ 0 (8 + 5 * j)) from (by first | rfl | (simp [gateI, gateF, acD, acV, acC, *]; done) | simp_all [gateI, gateF, acD, acV, acC]), show (gateF (inB (nI f) 0 3 && decide (σ 18 (nI f).toNatClampNeg = 1 ∧ oneB n (σ 19 (nI f).toNatClampNeg) = true)) (fun _ => σ 19 (nI f).toNatClampNeg) (σ 24) : Nat → Int32) = fun _ => (nI j) from (by first | rfl | (simp [gateI, gateF, acD, acV, acC, *]; done) | simp_all [gateI, gateF, acD, acV, acC]), show (gateF (inB (nI f) 0 3 && decide (σ 18 (nI f).toNatClampNeg = 1 ∧ oneB n (σ 19 (nI f).toNatClampNeg) = true)) (fun _ => σ 0 (8 + 5 * (σ 19 (nI f).toNatClampNeg).toNatClampNeg + 1)) (σ 25) : Nat → Int32) = fun _ => (σ 0 (8 + 5 * j + 1)) from (by first | rfl | (simp [gateI, gateF, acD, acV, acC, *]; done) | simp_all [gateI, gateF, acD, acV, acC]), show (gateF (inB (nI f) 0 3 && decide (σ 18 (nI f).toNatClampNeg = 1 ∧ oneB n (σ 19 (nI f).toNatClampNeg) = true)) (if inB t 0 3 = true then fun _ => acD t (σ 0 (8 + 5 * (σ 19 (nI f).toNatClampNeg).toNatClampNeg)) (σ 19 (nI f).toNatClampNeg) (σ 0 (8 + 5 * (σ 19 (nI f).toNatClampNeg).toNatClampNeg + 1)) else fun _ => 0) (fun _ => 0) : Nat → Int32) = fun _ => ptD ((fun _ => (nI j)) 0) ((fun _ => (σ 0 (8 + 5 * j + 1))) 0) from (by first | rfl | (simp [gateI, gateF, acD, acV, acC, *]; done) | simp_all [gateI, gateF, acD, acV, acC])] <;> rfl)
        · skip
          refine r_tableIn (pc := 74) C 30 143 dX5_act_74 (by rw [w_4]; decide) (by rw [w_4]; decide) (by rw [w_4]; rfl) (by decide) ?_
          have w_4 : t = 3 := Int32.toInt_inj.mp (by rw [w_4]; rfl)
          have hio : inB t 0 3 = true := by rw [w_4]; decide
          refine r_aload_n (pc := 143) C 1 dX5_act_143 rfl rfl ?_
          refine xg_thing (pc := 144) C fl_RX5_49 dX5_act_144 ?_
          refine r_iload_n (pc := 147) C 4 dX5_act_147 rfl rfl ?_
          refine rc_Vi (pc := 148) C (t_X4_turns' l ad D cs h (su (su (su (su (su σ 22 (fun _ => 0)) 23 (fun _ => (σ 0 (8 + 5 * j)))) 24 (fun _ => (nI j))) 25 (fun _ => (σ 0 (8 + 5 * j + 1)))) 26 (fun _ => 0)) pre post (σ 21) ((((((su_nn (by decide)).trans (su_nn (by decide))).trans (su_nn (by decide))).trans (su_nn (by decide))).trans (su_nn (by decide)))) (fun _ => 0) (((((su_nn (by decide)).trans (su_nn (by decide))).trans (su_nn (by decide))).trans (su_nn (by decide))).trans su_at) (fun _ => (σ 0 (8 + 5 * j))) ((((su_nn (by decide)).trans (su_nn (by decide))).trans (su_nn (by decide))).trans su_at) (fun _ => (nI j)) (((su_nn (by decide)).trans (su_nn (by decide))).trans su_at) (fun _ => (σ 0 (8 + 5 * j + 1))) ((su_nn (by decide)).trans su_at) (fun _ => 0) (su_at) 0 x rfl (by omega) rfl) mv_X4_turns ml_RX5_274 rfl ⟨Nat.le_of_ble_eq_true rfl, Nat.le_of_ble_eq_true rfl⟩ ⟨rfl, rfl⟩ (q0 := 60) rfl rfl rfl rfl rfl rfl (Nat.le_of_ble_eq_true rfl) dX5_act_148 ?_
          refine r_blk (blk' := wX cs h (su (su (su (su (su (su σ 21 (trB (σ 21) 0 (tuC ((fun _ => (σ 0 (8 + 5 * j))) 0) ((fun _ => (nI j)) 0) ((fun _ => (σ 0 (8 + 5 * j + 1))) 0)))) 22 (fun _ => nI (trR 0 (tuC ((fun _ => (σ 0 (8 + 5 * j))) 0) ((fun _ => (nI j)) 0) ((fun _ => (σ 0 (8 + 5 * j + 1))) 0))))) 23 (fun _ => (σ 0 (8 + 5 * j)))) 24 (fun _ => (nI j))) 25 (fun _ => (σ 0 (8 + 5 * j + 1)))) 26 (fun _ => tuD ((fun _ => (σ 0 (8 + 5 * j))) 0) ((fun _ => (nI j)) 0) ((fun _ => (σ 0 (8 + 5 * j + 1))) 0)))) (congrArg (wX cs h) (by rw [su_cm (k := 26) (j := 21) (by decide), su_cm (k := 25) (j := 21) (by decide), su_cm (k := 24) (j := 21) (by decide), su_cm (k := 23) (j := 21) (by decide), su_cm (k := 22) (j := 21) (by decide), su_cm (k := 26) (j := 22) (by decide), su_cm (k := 25) (j := 22) (by decide), su_cm (k := 24) (j := 22) (by decide), su_cm (k := 23) (j := 22) (by decide), su_su (k := 22), su_su (k := 26)])) ?_
          refine r_istore (pc := 151) C [(5, .int (tuV ((fun _ => (σ 0 (8 + 5 * j))) 0) ((fun _ => (nI j)) 0) ((fun _ => (σ 0 (8 + 5 * j + 1))) 0) x)), (4, .int (nI j)), (0, .ref (h 0)), (1, .int (nI f)), (2, .int t), (3, .int x)] dX5_act_151 (by decide) rfl ?_
          refine r_goto (pc := 153) C 159 dX5_act_153 (by decide) ?_
          refine r_aload_n (pc := 159) C 2 dX5_act_159 rfl rfl ?_
          refine xg_thing (pc := 160) C fl_RX5_49 dX5_act_160 ?_
          refine xg_h_isPartedBy0 (pc := 163) C fl_RX5_277 dX5_act_163 (tuD ((fun _ => (σ 0 (8 + 5 * j))) 0) ((fun _ => (nI j)) 0) ((fun _ => (σ 0 (8 + 5 * j + 1))) 0)) (congrFun (su_at) 0) ?_
          refine r_if_eq (pc := 166) C 174 dX5_act_166 (by decide) (fun c_9 => ?_) (fun c_9 => ?_)
          · skip
            refine r_iload (pc := 174) C 0 dX5_act_174 rfl ?_
            exact r_iret (pc := 176) C hr hlk dX5_act_176 rfl (by first | rfl | (simp [gateI, gateF, acD, acV, acC, *]; done) | simp_all [gateI, gateF, acD, acV, acC]) (by rw [show (gateF (inB (nI f) 0 3 && decide (σ 18 (nI f).toNatClampNeg = 1 ∧ oneB n (σ 19 (nI f).toNatClampNeg) = true)) (if inB t 0 3 = true then trB (σ 21) 0 (acC t (σ 0 (8 + 5 * (σ 19 (nI f).toNatClampNeg).toNatClampNeg)) (σ 19 (nI f).toNatClampNeg) (σ 0 (8 + 5 * (σ 19 (nI f).toNatClampNeg).toNatClampNeg + 1))) else σ 21) (σ 21) : Nat → Int32) = trB (σ 21) 0 (tuC ((fun _ => (σ 0 (8 + 5 * j))) 0) ((fun _ => (nI j)) 0) ((fun _ => (σ 0 (8 + 5 * j + 1))) 0)) from (by first | rfl | (simp [gateI, gateF, acD, acV, acC, *]; done) | simp_all [gateI, gateF, acD, acV, acC]), show (gateF (inB (nI f) 0 3 && decide (σ 18 (nI f).toNatClampNeg = 1 ∧ oneB n (σ 19 (nI f).toNatClampNeg) = true)) (if inB t 0 3 = true then fun _ => nI (trR 0 (acC t (σ 0 (8 + 5 * (σ 19 (nI f).toNatClampNeg).toNatClampNeg)) (σ 19 (nI f).toNatClampNeg) (σ 0 (8 + 5 * (σ 19 (nI f).toNatClampNeg).toNatClampNeg + 1)))) else fun _ => 0) (fun _ => 0) : Nat → Int32) = fun _ => nI (trR 0 (tuC ((fun _ => (σ 0 (8 + 5 * j))) 0) ((fun _ => (nI j)) 0) ((fun _ => (σ 0 (8 + 5 * j + 1))) 0))) from (by first | rfl | (simp [gateI, gateF, acD, acV, acC, *]; done) | simp_all [gateI, gateF, acD, acV, acC]), show (gateF (inB (nI f) 0 3 && decide (σ 18 (nI f).toNatClampNeg = 1 ∧ oneB n (σ 19 (nI f).toNatClampNeg) = true)) (fun _ => σ 0 (8 + 5 * (σ 19 (nI f).toNatClampNeg).toNatClampNeg)) (σ 23) : Nat → Int32) = fun _ => (σ 0 (8 + 5 * j)) from (by first | rfl | (simp [gateI, gateF, acD, acV, acC, *]; done) | simp_all [gateI, gateF, acD, acV, acC]), show (gateF (inB (nI f) 0 3 && decide (σ 18 (nI f).toNatClampNeg = 1 ∧ oneB n (σ 19 (nI f).toNatClampNeg) = true)) (fun _ => σ 19 (nI f).toNatClampNeg) (σ 24) : Nat → Int32) = fun _ => (nI j) from (by first | rfl | (simp [gateI, gateF, acD, acV, acC, *]; done) | simp_all [gateI, gateF, acD, acV, acC]), show (gateF (inB (nI f) 0 3 && decide (σ 18 (nI f).toNatClampNeg = 1 ∧ oneB n (σ 19 (nI f).toNatClampNeg) = true)) (fun _ => σ 0 (8 + 5 * (σ 19 (nI f).toNatClampNeg).toNatClampNeg + 1)) (σ 25) : Nat → Int32) = fun _ => (σ 0 (8 + 5 * j + 1)) from (by first | rfl | (simp [gateI, gateF, acD, acV, acC, *]; done) | simp_all [gateI, gateF, acD, acV, acC]), show (gateF (inB (nI f) 0 3 && decide (σ 18 (nI f).toNatClampNeg = 1 ∧ oneB n (σ 19 (nI f).toNatClampNeg) = true)) (if inB t 0 3 = true then fun _ => acD t (σ 0 (8 + 5 * (σ 19 (nI f).toNatClampNeg).toNatClampNeg)) (σ 19 (nI f).toNatClampNeg) (σ 0 (8 + 5 * (σ 19 (nI f).toNatClampNeg).toNatClampNeg + 1)) else fun _ => 0) (fun _ => 0) : Nat → Int32) = fun _ => tuD ((fun _ => (σ 0 (8 + 5 * j))) 0) ((fun _ => (nI j)) 0) ((fun _ => (σ 0 (8 + 5 * j + 1))) 0) from (by first | rfl | (simp [gateI, gateF, acD, acV, acC, *]; done) | simp_all [gateI, gateF, acD, acV, acC])] <;> rfl)
          · skip
            refine r_bipush (pc := 169) C (-15) dX5_act_169 (by decide) ?_
            refine r_goto (pc := 171) C 176 dX5_act_171 (by decide) ?_
            exact r_iret (pc := 176) C hr hlk dX5_act_176 rfl (by first | rfl | (simp [gateI, gateF, acD, acV, acC, *]; done) | simp_all [gateI, gateF, acD, acV, acC]) (by rw [show (gateF (inB (nI f) 0 3 && decide (σ 18 (nI f).toNatClampNeg = 1 ∧ oneB n (σ 19 (nI f).toNatClampNeg) = true)) (if inB t 0 3 = true then trB (σ 21) 0 (acC t (σ 0 (8 + 5 * (σ 19 (nI f).toNatClampNeg).toNatClampNeg)) (σ 19 (nI f).toNatClampNeg) (σ 0 (8 + 5 * (σ 19 (nI f).toNatClampNeg).toNatClampNeg + 1))) else σ 21) (σ 21) : Nat → Int32) = trB (σ 21) 0 (tuC ((fun _ => (σ 0 (8 + 5 * j))) 0) ((fun _ => (nI j)) 0) ((fun _ => (σ 0 (8 + 5 * j + 1))) 0)) from (by first | rfl | (simp [gateI, gateF, acD, acV, acC, *]; done) | simp_all [gateI, gateF, acD, acV, acC]), show (gateF (inB (nI f) 0 3 && decide (σ 18 (nI f).toNatClampNeg = 1 ∧ oneB n (σ 19 (nI f).toNatClampNeg) = true)) (if inB t 0 3 = true then fun _ => nI (trR 0 (acC t (σ 0 (8 + 5 * (σ 19 (nI f).toNatClampNeg).toNatClampNeg)) (σ 19 (nI f).toNatClampNeg) (σ 0 (8 + 5 * (σ 19 (nI f).toNatClampNeg).toNatClampNeg + 1)))) else fun _ => 0) (fun _ => 0) : Nat → Int32) = fun _ => nI (trR 0 (tuC ((fun _ => (σ 0 (8 + 5 * j))) 0) ((fun _ => (nI j)) 0) ((fun _ => (σ 0 (8 + 5 * j + 1))) 0))) from (by first | rfl | (simp [gateI, gateF, acD, acV, acC, *]; done) | simp_all [gateI, gateF, acD, acV, acC]), show (gateF (inB (nI f) 0 3 && decide (σ 18 (nI f).toNatClampNeg = 1 ∧ oneB n (σ 19 (nI f).toNatClampNeg) = true)) (fun _ => σ 0 (8 + 5 * (σ 19 (nI f).toNatClampNeg).toNatClampNeg)) (σ 23) : Nat → Int32) = fun _ => (σ 0 (8 + 5 * j)) from (by first | rfl | (simp [gateI, gateF, acD, acV, acC, *]; done) | simp_all [gateI, gateF, acD, acV, acC]), show (gateF (inB (nI f) 0 3 && decide (σ 18 (nI f).toNatClampNeg = 1 ∧ oneB n (σ 19 (nI f).toNatClampNeg) = true)) (fun _ => σ 19 (nI f).toNatClampNeg) (σ 24) : Nat → Int32) = fun _ => (nI j) from (by first | rfl | (simp [gateI, gateF, acD, acV, acC, *]; done) | simp_all [gateI, gateF, acD, acV, acC]), show (gateF (inB (nI f) 0 3 && decide (σ 18 (nI f).toNatClampNeg = 1 ∧ oneB n (σ 19 (nI f).toNatClampNeg) = true)) (fun _ => σ 0 (8 + 5 * (σ 19 (nI f).toNatClampNeg).toNatClampNeg + 1)) (σ 25) : Nat → Int32) = fun _ => (σ 0 (8 + 5 * j + 1)) from (by first | rfl | (simp [gateI, gateF, acD, acV, acC, *]; done) | simp_all [gateI, gateF, acD, acV, acC]), show (gateF (inB (nI f) 0 3 && decide (σ 18 (nI f).toNatClampNeg = 1 ∧ oneB n (σ 19 (nI f).toNatClampNeg) = true)) (if inB t 0 3 = true then fun _ => acD t (σ 0 (8 + 5 * (σ 19 (nI f).toNatClampNeg).toNatClampNeg)) (σ 19 (nI f).toNatClampNeg) (σ 0 (8 + 5 * (σ 19 (nI f).toNatClampNeg).toNatClampNeg + 1)) else fun _ => 0) (fun _ => 0) : Nat → Int32) = fun _ => tuD ((fun _ => (σ 0 (8 + 5 * j))) 0) ((fun _ => (nI j)) 0) ((fun _ => (σ 0 (8 + 5 * j + 1))) 0) from (by first | rfl | (simp [gateI, gateF, acD, acV, acC, *]; done) | simp_all [gateI, gateF, acD, acV, acC])] <;> rfl)
    · skip
      have c_2 := bI_0.mp c_2
      refine r_iconst (pc := 27) C 0 dX5_act_27 (by decide) ?_
      exact r_iret (pc := 28) C hr hlk dX5_act_28 rfl (by first | rfl | (simp [gateI, gateF, acD, acV, acC, *]; done) | simp_all [gateI, gateF, acD, acV, acC]) (by rw [show (gateF (inB (nI f) 0 3 && decide (σ 18 (nI f).toNatClampNeg = 1 ∧ oneB n (σ 19 (nI f).toNatClampNeg) = true)) (if inB t 0 3 = true then trB (σ 21) 0 (acC t (σ 0 (8 + 5 * (σ 19 (nI f).toNatClampNeg).toNatClampNeg)) (σ 19 (nI f).toNatClampNeg) (σ 0 (8 + 5 * (σ 19 (nI f).toNatClampNeg).toNatClampNeg + 1))) else σ 21) (σ 21) : Nat → Int32) = σ 21 from (by first | rfl | (simp [gateI, gateF, acD, acV, acC, *]; done) | simp_all [gateI, gateF, acD, acV, acC]), show (gateF (inB (nI f) 0 3 && decide (σ 18 (nI f).toNatClampNeg = 1 ∧ oneB n (σ 19 (nI f).toNatClampNeg) = true)) (if inB t 0 3 = true then fun _ => nI (trR 0 (acC t (σ 0 (8 + 5 * (σ 19 (nI f).toNatClampNeg).toNatClampNeg)) (σ 19 (nI f).toNatClampNeg) (σ 0 (8 + 5 * (σ 19 (nI f).toNatClampNeg).toNatClampNeg + 1)))) else fun _ => 0) (fun _ => 0) : Nat → Int32) = fun _ => 0 from (by first | rfl | (simp [gateI, gateF, acD, acV, acC, *]; done) | simp_all [gateI, gateF, acD, acV, acC]), show (gateF (inB (nI f) 0 3 && decide (σ 18 (nI f).toNatClampNeg = 1 ∧ oneB n (σ 19 (nI f).toNatClampNeg) = true)) (fun _ => σ 0 (8 + 5 * (σ 19 (nI f).toNatClampNeg).toNatClampNeg)) (σ 23) : Nat → Int32) = σ 23 from (by first | rfl | (simp [gateI, gateF, acD, acV, acC, *]; done) | simp_all [gateI, gateF, acD, acV, acC]), show (gateF (inB (nI f) 0 3 && decide (σ 18 (nI f).toNatClampNeg = 1 ∧ oneB n (σ 19 (nI f).toNatClampNeg) = true)) (fun _ => σ 19 (nI f).toNatClampNeg) (σ 24) : Nat → Int32) = σ 24 from (by first | rfl | (simp [gateI, gateF, acD, acV, acC, *]; done) | simp_all [gateI, gateF, acD, acV, acC]), show (gateF (inB (nI f) 0 3 && decide (σ 18 (nI f).toNatClampNeg = 1 ∧ oneB n (σ 19 (nI f).toNatClampNeg) = true)) (fun _ => σ 0 (8 + 5 * (σ 19 (nI f).toNatClampNeg).toNatClampNeg + 1)) (σ 25) : Nat → Int32) = σ 25 from (by first | rfl | (simp [gateI, gateF, acD, acV, acC, *]; done) | simp_all [gateI, gateF, acD, acV, acC]), show (gateF (inB (nI f) 0 3 && decide (σ 18 (nI f).toNatClampNeg = 1 ∧ oneB n (σ 19 (nI f).toNatClampNeg) = true)) (if inB t 0 3 = true then fun _ => acD t (σ 0 (8 + 5 * (σ 19 (nI f).toNatClampNeg).toNatClampNeg)) (σ 19 (nI f).toNatClampNeg) (σ 0 (8 + 5 * (σ 19 (nI f).toNatClampNeg).toNatClampNeg + 1)) else fun _ => 0) (fun _ => 0) : Nat → Int32) = fun _ => 0 from (by first | rfl | (simp [gateI, gateF, acD, acV, acC, *]; done) | simp_all [gateI, gateF, acD, acV, acC])] <;> rfl)
theorem t_X5_act' (l : Launch) (ad : Nat → Nat) (D : va_G) (cs : Nat → ClassId) (h : Nat → Nat) (σ : Nat → Nat → Int32) (pre post : va_W) (f0_ : Nat → Int32) (e0_ : σ 0 = f0_) (f18_ : Nat → Int32) (e18_ : σ 18 = f18_) (f19_ : Nat → Int32) (e19_ : σ 19 = f19_) (f21_ : Nat → Int32) (e21_ : σ 21 = f21_) (f23_ : Nat → Int32) (e23_ : σ 23 = f23_) (f24_ : Nat → Int32) (e24_ : σ 24 = f24_) (f25_ : Nat → Int32) (e25_ : σ 25 = f25_) (n : Nat) (g t x : Int32) (hN : f0_ 0 = nI n) (hn : n ≤ 8) (hR : rgM n f0_) : CTi l yX5_act cX5_act 6 .int ({ frames := 7, cells := 0, slots := 0, locals := 147 }) ad D (tysW cs) (pre ++ (wX cs h σ ++ post)) [.ref (h 0), .int g, .int t, .int x] (gateI (inB g 0 3 && decide (f18_ g.toNatClampNeg = 1 ∧ oneB n (f19_ g.toNatClampNeg) = true)) (if inB t 0 3 = true then (if acD t (f0_ (8 + 5 * (f19_ g.toNatClampNeg).toNatClampNeg)) (f19_ g.toNatClampNeg) (f0_ (8 + 5 * (f19_ g.toNatClampNeg).toNatClampNeg + 1)) = 0 then acV t (f0_ (8 + 5 * (f19_ g.toNatClampNeg).toNatClampNeg)) (f19_ g.toNatClampNeg) (f0_ (8 + 5 * (f19_ g.toNatClampNeg).toNatClampNeg + 1)) x else -15) else 0) 0) (pre ++ (wX cs h (su (su (su (su (su (su σ 21 (gateF (inB g 0 3 && decide (f18_ g.toNatClampNeg = 1 ∧ oneB n (f19_ g.toNatClampNeg) = true)) (if inB t 0 3 = true then trB (f21_) 0 (acC t (f0_ (8 + 5 * (f19_ g.toNatClampNeg).toNatClampNeg)) (f19_ g.toNatClampNeg) (f0_ (8 + 5 * (f19_ g.toNatClampNeg).toNatClampNeg + 1))) else f21_) (f21_))) 22 (gateF (inB g 0 3 && decide (f18_ g.toNatClampNeg = 1 ∧ oneB n (f19_ g.toNatClampNeg) = true)) (if inB t 0 3 = true then fun _ => nI (trR 0 (acC t (f0_ (8 + 5 * (f19_ g.toNatClampNeg).toNatClampNeg)) (f19_ g.toNatClampNeg) (f0_ (8 + 5 * (f19_ g.toNatClampNeg).toNatClampNeg + 1)))) else fun _ => 0) (fun _ => 0))) 23 (gateF (inB g 0 3 && decide (f18_ g.toNatClampNeg = 1 ∧ oneB n (f19_ g.toNatClampNeg) = true)) (fun _ => f0_ (8 + 5 * (f19_ g.toNatClampNeg).toNatClampNeg)) (f23_))) 24 (gateF (inB g 0 3 && decide (f18_ g.toNatClampNeg = 1 ∧ oneB n (f19_ g.toNatClampNeg) = true)) (fun _ => f19_ g.toNatClampNeg) (f24_))) 25 (gateF (inB g 0 3 && decide (f18_ g.toNatClampNeg = 1 ∧ oneB n (f19_ g.toNatClampNeg) = true)) (fun _ => f0_ (8 + 5 * (f19_ g.toNatClampNeg).toNatClampNeg + 1)) (f25_))) 26 (gateF (inB g 0 3 && decide (f18_ g.toNatClampNeg = 1 ∧ oneB n (f19_ g.toNatClampNeg) = true)) (if inB t 0 3 = true then fun _ => acD t (f0_ (8 + 5 * (f19_ g.toNatClampNeg).toNatClampNeg)) (f19_ g.toNatClampNeg) (f0_ (8 + 5 * (f19_ g.toNatClampNeg).toNatClampNeg + 1)) else fun _ => 0) (fun _ => 0))) ++ post)) := by
  subst e0_; subst e18_; subst e19_; subst e21_; subst e23_; subst e24_; subst e25_
  exact t_X5_act l ad D cs h σ pre post n g t x hN hn hR
theorem dX5_trace_0 : decode cX5_trace 0 = .ok (.iload_n 1, 1) := by decide +kernel
theorem dX5_trace_1 : decode cX5_trace 1 = .ok (.iconst 0, 1) := by decide +kernel
theorem dX5_trace_2 : decode cX5_trace 2 = .ok (.aload_n 0, 1) := by decide +kernel
theorem dX5_trace_3 : decode cX5_trace 3 = .ok (.getfield 49, 3) := by decide +kernel
theorem dX5_trace_6 : decode cX5_trace 6 = .ok (.getfield 281, 3) := by decide +kernel
theorem dX5_trace_9 : decode cX5_trace 9 = .ok (.iconst 1, 1) := by decide +kernel
theorem dX5_trace_10 : decode cX5_trace 10 = .ok (.isub, 1) := by decide +kernel
theorem dX5_trace_11 : decode cX5_trace 11 = .ok (.invokestatic 59, 3) := by decide +kernel
theorem dX5_trace_14 : decode cX5_trace 14 = .ok (.ifCond .eq 15, 3) := by decide +kernel
theorem dX5_trace_17 : decode cX5_trace 17 = .ok (.aload_n 0, 1) := by decide +kernel
theorem dX5_trace_18 : decode cX5_trace 18 = .ok (.getfield 49, 3) := by decide +kernel
theorem dX5_trace_21 : decode cX5_trace 21 = .ok (.getfield 284, 3) := by decide +kernel
theorem dX5_trace_24 : decode cX5_trace 24 = .ok (.iload_n 1, 1) := by decide +kernel
theorem dX5_trace_25 : decode cX5_trace 25 = .ok (.iaload, 1) := by decide +kernel
theorem dX5_trace_26 : decode cX5_trace 26 = .ok (.goto 5, 3) := by decide +kernel
theorem dX5_trace_29 : decode cX5_trace 29 = .ok (.bipush (-3), 2) := by decide +kernel
theorem dX5_trace_31 : decode cX5_trace 31 = .ok (.ireturn, 1) := by decide +kernel
set_option maxHeartbeats 400000 in
set_option maxRecDepth 20000 in
theorem t_X5_trace (l : Launch) (ad : Nat → Nat) (D : va_G) (cs : Nat → ClassId) (h : Nat → Nat) (σ : Nat → Nat → Int32) (pre post : va_W) (r : Nat) (i : Int32) (hRr : σ 22 0 = nI r) (hr0 : r ≤ 30) : CTi l yX5_trace cX5_trace 2 .int ({ frames := 1, cells := 0, slots := 0, locals := 22 }) ad D (tysW cs) (pre ++ (wX cs h σ ++ post)) [.ref (h 0), .int i] (gateI (inB i 0 (nI r - 1)) (σ 21 i.toNatClampNeg) (-3)) (pre ++ (wX cs h σ ++ post)) := by
  refine CTi.of (lv0 := [(0, .ref (h 0)), (1, .int i)]) (by decide) rfl (Nat.le_of_ble_eq_true rfl) (fun p e s m args below meth c A C hr hlk => ?_)
  have C : Cx p s m args c cX5_trace 2 RX5 ad D (tysW cs) A := C
  refine r_iload_n (pc := 0) C 1 dX5_trace_0 rfl rfl ?_
  refine r_iconst (pc := 1) C 0 dX5_trace_1 (by decide) ?_
  refine r_aload_n (pc := 2) C 0 dX5_trace_2 rfl rfl ?_
  refine xg_thing (pc := 3) C fl_RX5_49 dX5_trace_3 ?_
  refine xg_h_traceLength (pc := 6) C fl_RX5_281 dX5_trace_6 (σ 22 0) rfl ?_
  refine r_eqi (y := nI r) (hRr) ?_
  refine r_iconst (pc := 9) C 1 dX5_trace_9 (by decide) ?_
  refine r_isub (pc := 10) C dX5_trace_10 ?_
  refine rc_Si (pc := 11) C (t_X5_isWithin l ad D (tysW cs) (wX cs h σ) pre post  i (0 : Int32) ((nI r) - 1) ) ms_X5_isWithin ml_RX5_59 rfl ⟨Nat.le_of_ble_eq_true rfl, Nat.le_of_ble_eq_true rfl⟩ ⟨rfl, rfl⟩ rfl rfl rfl (Nat.le_of_ble_eq_true rfl) dX5_trace_11 ?_
  refine r_if_eq (pc := 14) C 29 dX5_trace_14 (by decide) (fun c_1 => ?_) (fun c_1 => ?_)
  · skip
    have c_1 := bI_0.mp c_1
    refine r_bipush (pc := 29) C (-3) dX5_trace_29 (by decide) ?_
    exact r_iret (pc := 31) C hr hlk dX5_trace_31 rfl (by first | rfl | (simp [gateI, gateF, *]; done) | simp_all [gateI, gateF]) rfl
  · skip
    have c_1 := bI_n.mp c_1
    obtain ⟨t, h_t, rfl⟩ := rng_pred r (by omega) c_1
    have e_t : (nI t).toNatClampNeg = t := nI_clamp (by omega)
    refine r_aload_n (pc := 17) C 0 dX5_trace_17 rfl rfl ?_
    refine xg_thing (pc := 18) C fl_RX5_49 dX5_trace_18 ?_
    refine xg_h_bodies (pc := 21) C fl_RX5_284 dX5_trace_21 ?_
    refine r_iload_n (pc := 24) C 1 dX5_trace_24 rfl rfl ?_
    refine xl_bodies (pc := 25) C t (rfl) (by omega) dX5_trace_25 (σ 21 t) rfl ?_
    refine r_goto (pc := 26) C 31 dX5_trace_26 (by decide) ?_
    exact r_iret (pc := 31) C hr hlk dX5_trace_31 rfl (by first | rfl | (simp [gateI, gateF, *]; done) | simp_all [gateI, gateF]) rfl
theorem t_X5_trace' (l : Launch) (ad : Nat → Nat) (D : va_G) (cs : Nat → ClassId) (h : Nat → Nat) (σ : Nat → Nat → Int32) (pre post : va_W) (f21_ : Nat → Int32) (e21_ : σ 21 = f21_) (f22_ : Nat → Int32) (e22_ : σ 22 = f22_) (r : Nat) (i : Int32) (hRr : f22_ 0 = nI r) (hr0 : r ≤ 30) : CTi l yX5_trace cX5_trace 2 .int ({ frames := 1, cells := 0, slots := 0, locals := 22 }) ad D (tysW cs) (pre ++ (wX cs h σ ++ post)) [.ref (h 0), .int i] (gateI (inB i 0 (nI r - 1)) (f21_ i.toNatClampNeg) (-3)) (pre ++ (wX cs h σ ++ post)) := by
  subst e21_; subst e22_
  exact t_X5_trace l ad D cs h σ pre post r i hRr hr0
theorem dX5_power_0 : decode cX5_power 0 = .ok (.lconst 1, 1) := by decide +kernel
theorem dX5_power_1 : decode cX5_power 1 = .ok (.lstore_n 3, 1) := by decide +kernel
theorem dX5_power_2 : decode cX5_power 2 = .ok (.iconst 0, 1) := by decide +kernel
theorem dX5_power_3 : decode cX5_power 3 = .ok (.istore 5, 2) := by decide +kernel
theorem dX5_power_5 : decode cX5_power 5 = .ok (.iload 5, 2) := by decide +kernel
theorem dX5_power_7 : decode cX5_power 7 = .ok (.iload_n 2, 1) := by decide +kernel
theorem dX5_power_8 : decode cX5_power 8 = .ok (.if_icmp .ge 13, 3) := by decide +kernel
theorem dX5_power_11 : decode cX5_power 11 = .ok (.lload_n 3, 1) := by decide +kernel
theorem dX5_power_12 : decode cX5_power 12 = .ok (.lload_n 0, 1) := by decide +kernel
theorem dX5_power_13 : decode cX5_power 13 = .ok (.lmul, 1) := by decide +kernel
theorem dX5_power_14 : decode cX5_power 14 = .ok (.lstore_n 3, 1) := by decide +kernel
theorem dX5_power_15 : decode cX5_power 15 = .ok (.iinc 5 1, 3) := by decide +kernel
theorem dX5_power_18 : decode cX5_power 18 = .ok (.goto (-13), 3) := by decide +kernel
theorem dX5_power_21 : decode cX5_power 21 = .ok (.lload_n 3, 1) := by decide +kernel
theorem dX5_power_22 : decode cX5_power 22 = .ok (.lreturn, 1) := by decide +kernel
set_option maxHeartbeats 400000 in
set_option maxRecDepth 20000 in
theorem t_X5_power (l : Launch) (ad : Nat → Nat) (D : va_G) (tys : List (ClassId × FieldType)) (bk : va_W) (pre post : va_W) (b k : Nat) (hk : k ≤ 8) : CTl l yX5_power cX5_power 6 ({ frames := 0, cells := 0, slots := 0, locals := 0 }) ad D tys (pre ++ (bk ++ post)) [.long (lN b), .int (nI k)] (lN (b ^ k)) (pre ++ (bk ++ post)) := by
  refine CTl.of (lv0 := [(0, .long (lN b)), (2, .int (nI k))]) (by decide) rfl (Nat.le_of_ble_eq_true rfl) (fun p e s m args below meth c A C hr hlk => ?_)
  have C : Cx p s m args c cX5_power 6 RX5 ad D tys A := C
  refine r_lconst (pc := 0) C 1 dX5_power_0 (by decide) ?_
  refine r_lstore_n (pc := 1) C [(3, .long 1), (0, .long (lN b)), (2, .int (nI k))] dX5_power_1 rfl (by decide) rfl ?_
  refine r_iconst (pc := 2) C 0 dX5_power_2 (by decide) ?_
  refine r_istore (pc := 3) C [(5, .int 0), (3, .long 1), (0, .long (lN b)), (2, .int (nI k))] dX5_power_3 (by decide) rfl ?_
  refine r_pick (lv' := [(0, .long (lN b)), (2, .int (nI k)), (3, .long 1), (5, .int 0)]) [2, 3, 1, 0] rfl ?_
  refine r_lv (lv' := [(0, .long (lN b)), (2, .int (nI k)), (3, .long (lN (b ^ 0))), (5, .int 0)]) (rfl) ?_
  refine r_loop (blkf := fun i => bk) (lvf := fun i => [(0, .long (lN b)), (2, .int (nI k)), (3, .long (lN (b ^ i))), (5, .int (nI i))]) (fun i => True) k 0 (by omega) (trivial) (fun i h_i _ ih_5 => ?_)
  show VX p l e _ s m args below meth c _ D A 6 pre bk post 5 [(0, .long (lN b)), (2, .int (nI k)), (3, .long (lN (b ^ i))), (5, .int (nI i))] []
  refine r_iload (pc := 5) C 3 dX5_power_5 rfl ?_
  refine r_iload_n (pc := 7) C 1 dX5_power_7 rfl rfl ?_
  refine r_icmp_ge (pc := 8) C 21 dX5_power_8 (by decide) (fun c_1 => ?_) (fun c_1 => ?_)
  · skip
    have c_1 := nIc_ge_t (a := i) (b := k) (by omega) (by omega) c_1
    obtain rfl : k = i := by omega
    refine r_lload_n (pc := 21) C 2 dX5_power_21 rfl rfl ?_
    exact r_lret (pc := 22) C hr hlk dX5_power_22 rfl rfl
  · skip
    have c_1 := nIc_ge_f (a := i) (b := k) (by omega) (by omega) c_1
    refine r_lload_n (pc := 11) C 2 dX5_power_11 rfl rfl ?_
    refine r_lload_n (pc := 12) C 0 dX5_power_12 rfl rfl ?_
    refine r_lmul (pc := 13) C dX5_power_13 ?_
    refine r_eql (y := lN (b ^ (i + 1))) (lN_mul (b ^ i) b) ?_
    refine r_lstore_n (pc := 14) C [(3, .long (lN (b ^ (i + 1)))), (0, .long (lN b)), (2, .int (nI k)), (5, .int (nI i))] dX5_power_14 rfl (by decide) rfl ?_
    refine r_iinc (pc := 15) C (nI (i + 1)) 3 [(5, .int (nI (i + 1))), (3, .long (lN (b ^ (i + 1)))), (0, .long (lN b)), (2, .int (nI k))] dX5_power_15 rfl (nI_1 _) (by decide) rfl ?_
    refine r_goto (pc := 18) C 5 dX5_power_18 (by decide) ?_
    refine r_pick (lv' := [(0, .long (lN b)), (2, .int (nI k)), (3, .long (lN (b ^ (i + 1)))), (5, .int (nI (i + 1)))]) [2, 3, 1, 0] rfl ?_
    exact ih_5 (by omega) (trivial)
theorem dX5_waysToChoose_0 : decode cX5_waysToChoose 0 = .ok (.lconst 1, 1) := by decide +kernel
theorem dX5_waysToChoose_1 : decode cX5_waysToChoose 1 = .ok (.lstore_n 2, 1) := by decide +kernel
theorem dX5_waysToChoose_2 : decode cX5_waysToChoose 2 = .ok (.iconst 1, 1) := by decide +kernel
theorem dX5_waysToChoose_3 : decode cX5_waysToChoose 3 = .ok (.istore 4, 2) := by decide +kernel
theorem dX5_waysToChoose_5 : decode cX5_waysToChoose 5 = .ok (.iload 4, 2) := by decide +kernel
theorem dX5_waysToChoose_7 : decode cX5_waysToChoose 7 = .ok (.iload_n 1, 1) := by decide +kernel
theorem dX5_waysToChoose_8 : decode cX5_waysToChoose 8 = .ok (.if_icmp .gt 23, 3) := by decide +kernel
theorem dX5_waysToChoose_11 : decode cX5_waysToChoose 11 = .ok (.lload_n 2, 1) := by decide +kernel
theorem dX5_waysToChoose_12 : decode cX5_waysToChoose 12 = .ok (.iload_n 0, 1) := by decide +kernel
theorem dX5_waysToChoose_13 : decode cX5_waysToChoose 13 = .ok (.iload_n 1, 1) := by decide +kernel
theorem dX5_waysToChoose_14 : decode cX5_waysToChoose 14 = .ok (.isub, 1) := by decide +kernel
theorem dX5_waysToChoose_15 : decode cX5_waysToChoose 15 = .ok (.iload 4, 2) := by decide +kernel
theorem dX5_waysToChoose_17 : decode cX5_waysToChoose 17 = .ok (.iadd, 1) := by decide +kernel
theorem dX5_waysToChoose_18 : decode cX5_waysToChoose 18 = .ok (.i2l, 1) := by decide +kernel
theorem dX5_waysToChoose_19 : decode cX5_waysToChoose 19 = .ok (.lmul, 1) := by decide +kernel
theorem dX5_waysToChoose_20 : decode cX5_waysToChoose 20 = .ok (.iload 4, 2) := by decide +kernel
theorem dX5_waysToChoose_22 : decode cX5_waysToChoose 22 = .ok (.i2l, 1) := by decide +kernel
theorem dX5_waysToChoose_23 : decode cX5_waysToChoose 23 = .ok (.ldiv, 1) := by decide +kernel
theorem dX5_waysToChoose_24 : decode cX5_waysToChoose 24 = .ok (.lstore_n 2, 1) := by decide +kernel
theorem dX5_waysToChoose_25 : decode cX5_waysToChoose 25 = .ok (.iinc 4 1, 3) := by decide +kernel
theorem dX5_waysToChoose_28 : decode cX5_waysToChoose 28 = .ok (.goto (-23), 3) := by decide +kernel
theorem dX5_waysToChoose_31 : decode cX5_waysToChoose 31 = .ok (.lload_n 2, 1) := by decide +kernel
theorem dX5_waysToChoose_32 : decode cX5_waysToChoose 32 = .ok (.lreturn, 1) := by decide +kernel
set_option maxHeartbeats 400000 in
set_option maxRecDepth 20000 in
theorem t_X5_waysToChoose (l : Launch) (ad : Nat → Nat) (D : va_G) (tys : List (ClassId × FieldType)) (bk : va_W) (pre post : va_W) (x k : Nat) (hx : x ≤ 8) (hk : k ≤ x) : CTl l yX5_waysToChoose cX5_waysToChoose 5 ({ frames := 0, cells := 0, slots := 0, locals := 0 }) ad D tys (pre ++ (bk ++ post)) [.int (nI x), .int (nI k)] (lN (wyN x k k)) (pre ++ (bk ++ post)) := by
  refine CTl.of (lv0 := [(0, .int (nI x)), (1, .int (nI k))]) (by decide) rfl (Nat.le_of_ble_eq_true rfl) (fun p e s m args below meth c A C hr hlk => ?_)
  have C : Cx p s m args c cX5_waysToChoose 5 RX5 ad D tys A := C
  refine r_lconst (pc := 0) C 1 dX5_waysToChoose_0 (by decide) ?_
  refine r_lstore_n (pc := 1) C [(2, .long 1), (0, .int (nI x)), (1, .int (nI k))] dX5_waysToChoose_1 rfl (by decide) rfl ?_
  refine r_iconst (pc := 2) C 1 dX5_waysToChoose_2 (by decide) ?_
  refine r_istore (pc := 3) C [(4, .int 1), (2, .long 1), (0, .int (nI x)), (1, .int (nI k))] dX5_waysToChoose_3 (by decide) rfl ?_
  refine r_pick (lv' := [(0, .int (nI x)), (1, .int (nI k)), (2, .long 1), (4, .int 1)]) [2, 3, 1, 0] rfl ?_
  refine r_lv (lv' := [(0, .int (nI x)), (1, .int (nI k)), (2, .long (lN (wyN x k 0))), (4, .int (nI (0 + 1)))]) (rfl) ?_
  refine r_loop (blkf := fun i => bk) (lvf := fun i => [(0, .int (nI x)), (1, .int (nI k)), (2, .long (lN (wyN x k i))), (4, .int (nI (i + 1)))]) (fun i => True) k 0 (by omega) (trivial) (fun i h_i _ ih_5 => ?_)
  have hw_ := wy_le x (by omega) k (by omega) i (by omega)
  have hm_ : wyN x k i * (x - k + (i + 1)) ≤ 100000 * 20 := Nat.mul_le_mul hw_ (by omega)
  show VX p l e _ s m args below meth c _ D A 5 pre bk post 5 [(0, .int (nI x)), (1, .int (nI k)), (2, .long (lN (wyN x k i))), (4, .int (nI (i + 1)))] []
  refine r_iload (pc := 5) C 3 dX5_waysToChoose_5 rfl ?_
  refine r_iload_n (pc := 7) C 1 dX5_waysToChoose_7 rfl rfl ?_
  refine r_icmp_gt (pc := 8) C 31 dX5_waysToChoose_8 (by decide) (fun c_1 => ?_) (fun c_1 => ?_)
  · skip
    have c_1 := nIc_gt_t (a := (i + 1)) (b := k) (by omega) (by omega) c_1
    obtain rfl : k = i := by omega
    refine r_lload_n (pc := 31) C 2 dX5_waysToChoose_31 rfl rfl ?_
    exact r_lret (pc := 32) C hr hlk dX5_waysToChoose_32 rfl rfl
  · skip
    have c_1 := nIc_gt_f (a := (i + 1)) (b := k) (by omega) (by omega) c_1
    refine r_lload_n (pc := 11) C 2 dX5_waysToChoose_11 rfl rfl ?_
    refine r_iload_n (pc := 12) C 0 dX5_waysToChoose_12 rfl rfl ?_
    refine r_iload_n (pc := 13) C 1 dX5_waysToChoose_13 rfl rfl ?_
    refine r_isub (pc := 14) C dX5_waysToChoose_14 ?_
    refine r_eqi (y := nI (x - k)) (pk_sub (by omega)) ?_
    refine r_iload (pc := 15) C 3 dX5_waysToChoose_15 rfl ?_
    refine r_iadd (pc := 17) C dX5_waysToChoose_17 ?_
    refine r_eqi (y := nI ((x - k) + (i + 1))) (nI_add (x - k) (i + 1)) ?_
    refine r_i2l (pc := 18) C dX5_waysToChoose_18 ?_
    refine r_eql (y := lN (x - k + (i + 1))) (nI_l (by omega)) ?_
    refine r_lmul (pc := 19) C dX5_waysToChoose_19 ?_
    refine r_eql (y := lN (wyN x k i * (x - k + (i + 1)))) (lN_mul _ _) ?_
    refine r_iload (pc := 20) C 3 dX5_waysToChoose_20 rfl ?_
    refine r_i2l (pc := 22) C dX5_waysToChoose_22 ?_
    refine r_eql (y := lN (i + 1)) (nI_l (by omega)) ?_
    refine r_ldiv (pc := 23) C dX5_waysToChoose_23 (lN_ne (by omega) (by omega)) ?_
    refine r_eql (y := lN (wyN x k i * (x - k + (i + 1)) / (i + 1))) (pk_lDiv (by omega) (by omega) (by omega)) ?_
    refine r_lstore_n (pc := 24) C [(2, .long (lN (wyN x k i * (x - k + (i + 1)) / (i + 1)))), (0, .int (nI x)), (1, .int (nI k)), (4, .int (nI (i + 1)))] dX5_waysToChoose_24 rfl (by decide) rfl ?_
    refine r_iinc (pc := 25) C (nI (i + 1 + 1)) 3 [(4, .int (nI (i + 1 + 1))), (2, .long (lN (wyN x k i * (x - k + (i + 1)) / (i + 1)))), (0, .int (nI x)), (1, .int (nI k))] dX5_waysToChoose_25 rfl (nI_1 _) (by decide) rfl ?_
    refine r_goto (pc := 28) C 5 dX5_waysToChoose_28 (by decide) ?_
    refine r_pick (lv' := [(0, .int (nI x)), (1, .int (nI k)), (2, .long (lN (wyN x k i * (x - k + (i + 1)) / (i + 1)))), (4, .int (nI (i + 1 + 1)))]) [2, 3, 1, 0] rfl ?_
    refine r_lv (lv' := [(0, .int (nI x)), (1, .int (nI k)), (2, .long (lN (wyN x k (i + 1)))), (4, .int (nI ((i + 1) + 1)))]) (rfl) ?_
    exact ih_5 (by omega) (trivial)
theorem dX5_commonDivisor_0 : decode cX5_commonDivisor 0 = .ok (.lload_n 2, 1) := by decide +kernel
theorem dX5_commonDivisor_1 : decode cX5_commonDivisor 1 = .ok (.lstore 4, 2) := by decide +kernel
theorem dX5_commonDivisor_3 : decode cX5_commonDivisor 3 = .ok (.lload_n 0, 1) := by decide +kernel
theorem dX5_commonDivisor_4 : decode cX5_commonDivisor 4 = .ok (.lstore 6, 2) := by decide +kernel
theorem dX5_commonDivisor_6 : decode cX5_commonDivisor 6 = .ok (.iconst 0, 1) := by decide +kernel
theorem dX5_commonDivisor_7 : decode cX5_commonDivisor 7 = .ok (.istore 8, 2) := by decide +kernel
theorem dX5_commonDivisor_9 : decode cX5_commonDivisor 9 = .ok (.iload 8, 2) := by decide +kernel
theorem dX5_commonDivisor_11 : decode cX5_commonDivisor 11 = .ok (.sipush 1000, 3) := by decide +kernel
theorem dX5_commonDivisor_14 : decode cX5_commonDivisor 14 = .ok (.if_icmp .ge 31, 3) := by decide +kernel
theorem dX5_commonDivisor_17 : decode cX5_commonDivisor 17 = .ok (.lload 6, 2) := by decide +kernel
theorem dX5_commonDivisor_19 : decode cX5_commonDivisor 19 = .ok (.lconst 0, 1) := by decide +kernel
theorem dX5_commonDivisor_20 : decode cX5_commonDivisor 20 = .ok (.lcmp, 1) := by decide +kernel
theorem dX5_commonDivisor_21 : decode cX5_commonDivisor 21 = .ok (.ifCond .eq 24, 3) := by decide +kernel
theorem dX5_commonDivisor_24 : decode cX5_commonDivisor 24 = .ok (.lload 4, 2) := by decide +kernel
theorem dX5_commonDivisor_26 : decode cX5_commonDivisor 26 = .ok (.lload 6, 2) := by decide +kernel
theorem dX5_commonDivisor_28 : decode cX5_commonDivisor 28 = .ok (.lrem, 1) := by decide +kernel
theorem dX5_commonDivisor_29 : decode cX5_commonDivisor 29 = .ok (.lstore 9, 2) := by decide +kernel
theorem dX5_commonDivisor_31 : decode cX5_commonDivisor 31 = .ok (.lload 6, 2) := by decide +kernel
theorem dX5_commonDivisor_33 : decode cX5_commonDivisor 33 = .ok (.lstore 4, 2) := by decide +kernel
theorem dX5_commonDivisor_35 : decode cX5_commonDivisor 35 = .ok (.lload 9, 2) := by decide +kernel
theorem dX5_commonDivisor_37 : decode cX5_commonDivisor 37 = .ok (.lstore 6, 2) := by decide +kernel
theorem dX5_commonDivisor_39 : decode cX5_commonDivisor 39 = .ok (.iinc 8 1, 3) := by decide +kernel
theorem dX5_commonDivisor_42 : decode cX5_commonDivisor 42 = .ok (.goto (-33), 3) := by decide +kernel
theorem dX5_commonDivisor_45 : decode cX5_commonDivisor 45 = .ok (.lconst 1, 1) := by decide +kernel
theorem dX5_commonDivisor_46 : decode cX5_commonDivisor 46 = .ok (.lload 4, 2) := by decide +kernel
theorem dX5_commonDivisor_48 : decode cX5_commonDivisor 48 = .ok (.invokestatic 322, 3) := by decide +kernel
theorem dX5_commonDivisor_51 : decode cX5_commonDivisor 51 = .ok (.lreturn, 1) := by decide +kernel
set_option maxHeartbeats 400000 in
set_option maxRecDepth 20000 in
theorem t_X5_commonDivisor (l : Launch) (ad : Nat → Nat) (D : va_G) (tys : List (ClassId × FieldType)) (bk : va_W) (pre post : va_W) (a b : Nat) (ha : a < 2 ^ 63) (hb9 : b < 2 ^ 63) (hb0 : 0 < b) : CTl l yX5_commonDivisor cX5_commonDivisor 11 ({ frames := 1, cells := 0, slots := 0, locals := 23 }) ad D tys (pre ++ (bk ++ post)) [.long (lN a), .long (lN b)] (lN (Nat.gcd b a)) (pre ++ (bk ++ post)) := by
  refine CTl.of (lv0 := [(0, .long (lN a)), (2, .long (lN b))]) (by decide) rfl (Nat.le_of_ble_eq_true rfl) (fun p e s m args below meth c A C hr hlk => ?_)
  have C : Cx p s m args c cX5_commonDivisor 11 RX5 ad D tys A := C
  refine r_lload_n (pc := 0) C 1 dX5_commonDivisor_0 rfl rfl ?_
  refine r_lstore (pc := 1) C [(4, .long (lN b)), (0, .long (lN a)), (2, .long (lN b))] dX5_commonDivisor_1 (by decide) rfl ?_
  refine r_lload_n (pc := 3) C 1 dX5_commonDivisor_3 rfl rfl ?_
  refine r_lstore (pc := 4) C [(6, .long (lN a)), (4, .long (lN b)), (0, .long (lN a)), (2, .long (lN b))] dX5_commonDivisor_4 (by decide) rfl ?_
  refine r_iconst (pc := 6) C 0 dX5_commonDivisor_6 (by decide) ?_
  refine r_istore (pc := 7) C [(8, .int 0), (6, .long (lN a)), (4, .long (lN b)), (0, .long (lN a)), (2, .long (lN b))] dX5_commonDivisor_7 (by decide) rfl ?_
  refine r_pick (lv' := [(0, .long (lN a)), (2, .long (lN b)), (4, .long (lN b)), (6, .long (lN a)), (8, .int 0)]) [3, 4, 2, 1, 0] rfl ?_
  refine r_lv (lv' := [(0, .long (lN a)), (2, .long (lN b)), (4, .long (lN (giN a b 0).1)), (6, .long (lN (giN a b 0).2)), (8, .int 0)]) (rfl) ?_
  refine r_loop (blkf := fun i => bk) (lvf := fun i => [(0, .long (lN a)), (2, .long (lN b)), (4, .long (lN (giN a b i).1)), (6, .long (lN (giN a b i).2)), (8, .int (nI i))]) (fun i => GiX a b i) 1000 0 (by omega) (gx_0 ha hb9) (fun i h_i hx ih_9 => ?_)
  have hi2 := gx_200 ha hx
  show VX p l e _ s m args below meth c _ D A 11 pre bk post 9 [(0, .long (lN a)), (2, .long (lN b)), (4, .long (lN (giN a b i).1)), (6, .long (lN (giN a b i).2)), (8, .int (nI i))] []
  refine r_iload (pc := 9) C 4 dX5_commonDivisor_9 rfl ?_
  refine r_sipush (pc := 11) C 1000 dX5_commonDivisor_11 (by decide) ?_
  refine r_icmp_ge (pc := 14) C 45 dX5_commonDivisor_14 (by decide) (fun c_1 => ?_) (fun c_1 => ?_)
  · skip
    have c_1 := nIc_ge_t (a := i) (b := 1000) (by omega) (by omega) c_1
    obtain rfl : i = 1000 := by omega
    exact absurd hi2 (by omega)
  · skip
    have c_1 := nIc_ge_f (a := i) (b := 1000) (by omega) (by omega) c_1
    refine r_lload (pc := 17) C 3 dX5_commonDivisor_17 rfl ?_
    refine r_lconst (pc := 19) C 0 dX5_commonDivisor_19 (by decide) ?_
    refine r_lcmp (pc := 20) C dX5_commonDivisor_20 ?_
    refine r_if_eq (pc := 21) C 45 dX5_commonDivisor_21 (by decide) (fun c_2 => ?_) (fun c_2 => ?_)
    · skip
      have c_2 := (lg_cmp_eq _ _).mp c_2
      have hz := lN_z hx.1.2.2.2 c_2
      have hA := gx_end hb0 hx hz
      refine r_lconst (pc := 45) C 1 dX5_commonDivisor_45 (by decide) ?_
      refine r_lload (pc := 46) C 2 dX5_commonDivisor_46 rfl ?_
      refine r_eql (y := lN (Nat.gcd b a)) (by rw [hA.1]) ?_
      refine r_mmaxl (pc := 48) C ml_RX5_322' (Nat.le_of_ble_eq_true rfl) (Nat.le_of_ble_eq_true rfl) (Nat.le_of_ble_eq_true rfl) dX5_commonDivisor_48 ?_
      refine r_eql (y := lN (Nat.gcd b a)) (mx1 (Nat.gcd_pos_of_pos_left _ hb0) (Nat.lt_of_le_of_lt (Nat.gcd_le_left _ hb0) hb9)) ?_
      exact r_lret (pc := 51) C hr hlk dX5_commonDivisor_51 rfl rfl
    · skip
      have c_2 := mt (lg_cmp_eq _ _).mpr c_2
      have hz := lN_nz c_2
      refine r_lload (pc := 24) C 2 dX5_commonDivisor_24 rfl ?_
      refine r_lload (pc := 26) C 3 dX5_commonDivisor_26 rfl ?_
      refine r_lrem (pc := 28) C dX5_commonDivisor_28 (by assumption) ?_
      refine r_eql (y := lN ((giN a b i).1 % (giN a b i).2)) (pk_lRem hx.1.2.2.1 (by omega) hx.1.2.2.2) ?_
      refine r_lstore (pc := 29) C [(9, .long (lN ((giN a b i).1 % (giN a b i).2))), (0, .long (lN a)), (2, .long (lN b)), (4, .long (lN (giN a b i).1)), (6, .long (lN (giN a b i).2)), (8, .int (nI i))] dX5_commonDivisor_29 (by decide) rfl ?_
      refine r_lload (pc := 31) C 4 dX5_commonDivisor_31 rfl ?_
      refine r_lstore (pc := 33) C [(4, .long (lN (giN a b i).2)), (9, .long (lN ((giN a b i).1 % (giN a b i).2))), (0, .long (lN a)), (2, .long (lN b)), (6, .long (lN (giN a b i).2)), (8, .int (nI i))] dX5_commonDivisor_33 (by decide) rfl ?_
      refine r_lload (pc := 35) C 1 dX5_commonDivisor_35 rfl ?_
      refine r_lstore (pc := 37) C [(6, .long (lN ((giN a b i).1 % (giN a b i).2))), (4, .long (lN (giN a b i).2)), (9, .long (lN ((giN a b i).1 % (giN a b i).2))), (0, .long (lN a)), (2, .long (lN b)), (8, .int (nI i))] dX5_commonDivisor_37 (by decide) rfl ?_
      refine r_iinc (pc := 39) C (nI (i + 1)) 5 [(8, .int (nI (i + 1))), (6, .long (lN ((giN a b i).1 % (giN a b i).2))), (4, .long (lN (giN a b i).2)), (9, .long (lN ((giN a b i).1 % (giN a b i).2))), (0, .long (lN a)), (2, .long (lN b))] dX5_commonDivisor_39 rfl (nI_1 _) (by decide) rfl ?_
      refine r_goto (pc := 42) C 9 dX5_commonDivisor_42 (by decide) ?_
      refine r_pick (lv' := [(0, .long (lN a)), (2, .long (lN b)), (4, .long (lN (giN a b i).2)), (6, .long (lN ((giN a b i).1 % (giN a b i).2))), (8, .int (nI (i + 1)))]) [4, 5, 2, 1, 0] rfl ?_
      refine r_lv (lv' := [(0, .long (lN a)), (2, .long (lN b)), (4, .long (lN (giN a b (i + 1)).1)), (6, .long (lN (giN a b (i + 1)).2)), (8, .int (nI (i + 1)))]) (rfl) ?_
      exact ih_9 (by omega) (gx_s hx hz)
theorem dX5_partOfFraction_0 : decode cX5_partOfFraction 0 = .ok (.lload_n 0, 1) := by decide +kernel
theorem dX5_partOfFraction_1 : decode cX5_partOfFraction 1 = .ok (.lload_n 2, 1) := by decide +kernel
theorem dX5_partOfFraction_2 : decode cX5_partOfFraction 2 = .ok (.invokestatic 318, 3) := by decide +kernel
theorem dX5_partOfFraction_5 : decode cX5_partOfFraction 5 = .ok (.lstore 5, 2) := by decide +kernel
theorem dX5_partOfFraction_7 : decode cX5_partOfFraction 7 = .ok (.iload 4, 2) := by decide +kernel
theorem dX5_partOfFraction_9 : decode cX5_partOfFraction 9 = .ok (.ifCond .ne 7, 3) := by decide +kernel
theorem dX5_partOfFraction_12 : decode cX5_partOfFraction 12 = .ok (.lload_n 0, 1) := by decide +kernel
theorem dX5_partOfFraction_13 : decode cX5_partOfFraction 13 = .ok (.goto 4, 3) := by decide +kernel
theorem dX5_partOfFraction_16 : decode cX5_partOfFraction 16 = .ok (.lload_n 2, 1) := by decide +kernel
theorem dX5_partOfFraction_17 : decode cX5_partOfFraction 17 = .ok (.lload 5, 2) := by decide +kernel
theorem dX5_partOfFraction_19 : decode cX5_partOfFraction 19 = .ok (.ldiv, 1) := by decide +kernel
theorem dX5_partOfFraction_20 : decode cX5_partOfFraction 20 = .ok (.lreturn, 1) := by decide +kernel
set_option maxHeartbeats 400000 in
set_option maxRecDepth 20000 in
theorem t_X5_partOfFraction (l : Launch) (ad : Nat → Nat) (D : va_G) (tys : List (ClassId × FieldType)) (bk : va_W) (pre post : va_W) (a b : Nat) (q : Int32) (ha : a < 2 ^ 63) (hb9 : b < 2 ^ 63) (hb0 : 0 < b) : CTl l yX5_partOfFraction cX5_partOfFraction 7 ({ frames := 2, cells := 0, slots := 0, locals := 53 }) ad D tys (pre ++ (bk ++ post)) [.long (lN a), .long (lN b), .int q] (lN (prtN a b q)) (pre ++ (bk ++ post)) := by
  refine CTl.of (lv0 := [(0, .long (lN a)), (2, .long (lN b)), (4, .int q)]) (by decide) rfl (Nat.le_of_ble_eq_true rfl) (fun p e s m args below meth c A C hr hlk => ?_)
  have C : Cx p s m args c cX5_partOfFraction 7 RX5 ad D tys A := C
  have hg0 : 0 < Nat.gcd b a := Nat.gcd_pos_of_pos_left _ hb0
  have hg9 : Nat.gcd b a < 2 ^ 63 := Nat.lt_of_le_of_lt (Nat.gcd_le_left _ hb0) hb9
  refine r_lload_n (pc := 0) C 0 dX5_partOfFraction_0 rfl rfl ?_
  refine r_lload_n (pc := 1) C 1 dX5_partOfFraction_1 rfl rfl ?_
  refine rc_Sl (pc := 2) C (t_X5_commonDivisor l ad D tys bk pre post  a b ha hb9 hb0) ms_X5_commonDivisor ml_RX5_318 rfl ⟨Nat.le_of_ble_eq_true rfl, Nat.le_of_ble_eq_true rfl⟩ ⟨rfl, rfl⟩ rfl rfl rfl (Nat.le_of_ble_eq_true rfl) dX5_partOfFraction_2 ?_
  refine r_lstore (pc := 5) C [(5, .long (lN (Nat.gcd b a))), (0, .long (lN a)), (2, .long (lN b)), (4, .int q)] dX5_partOfFraction_5 (by decide) rfl ?_
  refine r_iload (pc := 7) C 3 dX5_partOfFraction_7 rfl ?_
  refine r_if_ne (pc := 9) C 16 dX5_partOfFraction_9 (by decide) (fun c_1 => ?_) (fun c_1 => ?_)
  · skip
    refine r_lload_n (pc := 16) C 2 dX5_partOfFraction_16 rfl rfl ?_
    refine r_lload (pc := 17) C 0 dX5_partOfFraction_17 rfl ?_
    refine r_ldiv (pc := 19) C dX5_partOfFraction_19 (lN_ne hg0 hg9) ?_
    refine r_eql (y := lN (b / Nat.gcd b a)) (pk_lDiv hb9 hg0 hg9) ?_
    exact r_lret (pc := 20) C hr hlk dX5_partOfFraction_20 (by simp [prtN, *]) rfl
  · skip
    refine r_lload_n (pc := 12) C 1 dX5_partOfFraction_12 rfl rfl ?_
    refine r_goto (pc := 13) C 17 dX5_partOfFraction_13 (by decide) ?_
    refine r_lload (pc := 17) C 0 dX5_partOfFraction_17 rfl ?_
    refine r_ldiv (pc := 19) C dX5_partOfFraction_19 (lN_ne hg0 hg9) ?_
    refine r_eql (y := lN (a / Nat.gcd b a)) (pk_lDiv ha hg0 hg9) ?_
    exact r_lret (pc := 20) C hr hlk dX5_partOfFraction_20 (by simp [prtN, *]) rfl
theorem dX5_odds_0 : decode cX5_odds 0 = .ok (.iload_n 1, 1) := by decide +kernel
theorem dX5_odds_1 : decode cX5_odds 1 = .ok (.iconst 0, 1) := by decide +kernel
theorem dX5_odds_2 : decode cX5_odds 2 = .ok (.bipush 8, 2) := by decide +kernel
theorem dX5_odds_4 : decode cX5_odds 4 = .ok (.invokestatic 59, 3) := by decide +kernel
theorem dX5_odds_7 : decode cX5_odds 7 = .ok (.ifCond .eq 21, 3) := by decide +kernel
theorem dX5_odds_10 : decode cX5_odds 10 = .ok (.iload_n 2, 1) := by decide +kernel
theorem dX5_odds_11 : decode cX5_odds 11 = .ok (.iconst 0, 1) := by decide +kernel
theorem dX5_odds_12 : decode cX5_odds 12 = .ok (.iload_n 1, 1) := by decide +kernel
theorem dX5_odds_13 : decode cX5_odds 13 = .ok (.invokestatic 59, 3) := by decide +kernel
theorem dX5_odds_16 : decode cX5_odds 16 = .ok (.ifCond .eq 12, 3) := by decide +kernel
theorem dX5_odds_19 : decode cX5_odds 19 = .ok (.iload_n 3, 1) := by decide +kernel
theorem dX5_odds_20 : decode cX5_odds 20 = .ok (.iconst 0, 1) := by decide +kernel
theorem dX5_odds_21 : decode cX5_odds 21 = .ok (.iconst 1, 1) := by decide +kernel
theorem dX5_odds_22 : decode cX5_odds 22 = .ok (.invokestatic 59, 3) := by decide +kernel
theorem dX5_odds_25 : decode cX5_odds 25 = .ok (.ifCond .ne 7, 3) := by decide +kernel
theorem dX5_odds_28 : decode cX5_odds 28 = .ok (.ldc2_w 200, 3) := by decide +kernel
theorem dX5_odds_31 : decode cX5_odds 31 = .ok (.lreturn, 1) := by decide +kernel
theorem dX5_odds_32 : decode cX5_odds 32 = .ok (.aload_n 0, 1) := by decide +kernel
theorem dX5_odds_33 : decode cX5_odds 33 = .ok (.getfield 10, 3) := by decide +kernel
theorem dX5_odds_36 : decode cX5_odds 36 = .ok (.getfield 98, 3) := by decide +kernel
theorem dX5_odds_39 : decode cX5_odds 39 = .ok (.iconst 3, 1) := by decide +kernel
theorem dX5_odds_40 : decode cX5_odds 40 = .ok (.iaload, 1) := by decide +kernel
theorem dX5_odds_41 : decode cX5_odds 41 = .ok (.istore 4, 2) := by decide +kernel
theorem dX5_odds_43 : decode cX5_odds 43 = .ok (.iload_n 1, 1) := by decide +kernel
theorem dX5_odds_44 : decode cX5_odds 44 = .ok (.iload_n 2, 1) := by decide +kernel
theorem dX5_odds_45 : decode cX5_odds 45 = .ok (.invokestatic 202, 3) := by decide +kernel
theorem dX5_odds_48 : decode cX5_odds 48 = .ok (.iload 4, 2) := by decide +kernel
theorem dX5_odds_50 : decode cX5_odds 50 = .ok (.i2l, 1) := by decide +kernel
theorem dX5_odds_51 : decode cX5_odds 51 = .ok (.iload_n 2, 1) := by decide +kernel
theorem dX5_odds_52 : decode cX5_odds 52 = .ok (.invokestatic 206, 3) := by decide +kernel
theorem dX5_odds_55 : decode cX5_odds 55 = .ok (.lmul, 1) := by decide +kernel
theorem dX5_odds_56 : decode cX5_odds 56 = .ok (.bipush 100, 2) := by decide +kernel
theorem dX5_odds_58 : decode cX5_odds 58 = .ok (.iload 4, 2) := by decide +kernel
theorem dX5_odds_60 : decode cX5_odds 60 = .ok (.isub, 1) := by decide +kernel
theorem dX5_odds_61 : decode cX5_odds 61 = .ok (.i2l, 1) := by decide +kernel
theorem dX5_odds_62 : decode cX5_odds 62 = .ok (.iload_n 1, 1) := by decide +kernel
theorem dX5_odds_63 : decode cX5_odds 63 = .ok (.iload_n 2, 1) := by decide +kernel
theorem dX5_odds_64 : decode cX5_odds 64 = .ok (.isub, 1) := by decide +kernel
theorem dX5_odds_65 : decode cX5_odds 65 = .ok (.invokestatic 206, 3) := by decide +kernel
theorem dX5_odds_68 : decode cX5_odds 68 = .ok (.lmul, 1) := by decide +kernel
theorem dX5_odds_69 : decode cX5_odds 69 = .ok (.lstore 5, 2) := by decide +kernel
theorem dX5_odds_71 : decode cX5_odds 71 = .ok (.lload 5, 2) := by decide +kernel
theorem dX5_odds_73 : decode cX5_odds 73 = .ok (.ldc2_w 210, 3) := by decide +kernel
theorem dX5_odds_76 : decode cX5_odds 76 = .ok (.iload_n 1, 1) := by decide +kernel
theorem dX5_odds_77 : decode cX5_odds 77 = .ok (.invokestatic 206, 3) := by decide +kernel
theorem dX5_odds_80 : decode cX5_odds 80 = .ok (.iload_n 3, 1) := by decide +kernel
theorem dX5_odds_81 : decode cX5_odds 81 = .ok (.invokestatic 212, 3) := by decide +kernel
theorem dX5_odds_84 : decode cX5_odds 84 = .ok (.lreturn, 1) := by decide +kernel
set_option maxHeartbeats 400000 in
set_option maxRecDepth 20000 in
theorem t_X5_odds (l : Launch) (ad : Nat → Nat) (D : va_G) (cs : Nat → ClassId) (h : Nat → Nat) (σ : Nat → Nat → Int32) (pre post : va_W) (n c0 : Nat) (a b q : Int32) (hN : σ 0 0 = nI n) (hn : n ≤ 8) (hS : σ 0 7 = nI c0) (hs : c0 ≤ 99) : CTl l yX5_odds cX5_odds 7 ({ frames := 3, cells := 0, slots := 0, locals := 79 }) ad D (tysW cs) (pre ++ (wX cs h σ ++ post)) [.ref (h 0), .int a, .int b, .int q] (gateL (inB a 0 8 && (inB b 0 a && inB q 0 1)) (lN (prtN (odA a.toNatClampNeg b.toNatClampNeg c0 a.toNatClampNeg) (100 ^ a.toNatClampNeg) q)) (-1)) (pre ++ (wX cs h σ ++ post)) := by
  refine CTl.of (lv0 := [(0, .ref (h 0)), (1, .int a), (2, .int b), (3, .int q)]) (by decide) rfl (Nat.le_of_ble_eq_true rfl) (fun p e s m args below meth c A C hr hlk => ?_)
  have C : Cx p s m args c cX5_odds 7 RX5 ad D (tysW cs) A := C
  refine r_iload_n (pc := 0) C 1 dX5_odds_0 rfl rfl ?_
  refine r_iconst (pc := 1) C 0 dX5_odds_1 (by decide) ?_
  refine r_bipush (pc := 2) C 8 dX5_odds_2 (by decide) ?_
  refine rc_Si (pc := 4) C (t_X5_isWithin l ad D (tysW cs) (wX cs h σ) pre post  a (0 : Int32) (8 : Int32) ) ms_X5_isWithin ml_RX5_59 rfl ⟨Nat.le_of_ble_eq_true rfl, Nat.le_of_ble_eq_true rfl⟩ ⟨rfl, rfl⟩ rfl rfl rfl (Nat.le_of_ble_eq_true rfl) dX5_odds_4 ?_
  refine r_if_eq (pc := 7) C 28 dX5_odds_7 (by decide) (fun c_1 => ?_) (fun c_1 => ?_)
  · skip
    have c_1 := bI_0.mp c_1
    refine r_ldc2 (pc := 28) C dX5_odds_28 cn_RX5_200 ?_
    exact r_lret (pc := 31) C hr hlk dX5_odds_31 (by first | rfl | (simp [gateL, *]; done) | simp_all [gateL]) rfl
  · skip
    have c_1 := bI_n.mp c_1
    obtain ⟨x, l_x, h_x, rfl⟩ := rng_nat 0 8 (by decide) (by decide) c_1
    have e_x : (nI x).toNatClampNeg = x := nI_clamp (by omega)
    refine r_iload_n (pc := 10) C 2 dX5_odds_10 rfl rfl ?_
    refine r_iconst (pc := 11) C 0 dX5_odds_11 (by decide) ?_
    refine r_iload_n (pc := 12) C 1 dX5_odds_12 rfl rfl ?_
    refine rc_Si (pc := 13) C (t_X5_isWithin l ad D (tysW cs) (wX cs h σ) pre post  b (0 : Int32) (nI x) ) ms_X5_isWithin ml_RX5_59 rfl ⟨Nat.le_of_ble_eq_true rfl, Nat.le_of_ble_eq_true rfl⟩ ⟨rfl, rfl⟩ rfl rfl rfl (Nat.le_of_ble_eq_true rfl) dX5_odds_13 ?_
    refine r_if_eq (pc := 16) C 28 dX5_odds_16 (by decide) (fun c_2 => ?_) (fun c_2 => ?_)
    · skip
      have c_2 := bI_0.mp c_2
      refine r_ldc2 (pc := 28) C dX5_odds_28 cn_RX5_200 ?_
      exact r_lret (pc := 31) C hr hlk dX5_odds_31 (by first | rfl | (simp [gateL, *]; done) | simp_all [gateL]) rfl
    · skip
      have c_2 := bI_n.mp c_2
      obtain ⟨z, l_z, h_z, rfl⟩ := rng_nat 0 x (by omega) (by omega) c_2
      have e_z : (nI z).toNatClampNeg = z := nI_clamp (by omega)
      refine r_iload_n (pc := 19) C 3 dX5_odds_19 rfl rfl ?_
      refine r_iconst (pc := 20) C 0 dX5_odds_20 (by decide) ?_
      refine r_iconst (pc := 21) C 1 dX5_odds_21 (by decide) ?_
      refine rc_Si (pc := 22) C (t_X5_isWithin l ad D (tysW cs) (wX cs h σ) pre post  q (0 : Int32) (1 : Int32) ) ms_X5_isWithin ml_RX5_59 rfl ⟨Nat.le_of_ble_eq_true rfl, Nat.le_of_ble_eq_true rfl⟩ ⟨rfl, rfl⟩ rfl rfl rfl (Nat.le_of_ble_eq_true rfl) dX5_odds_22 ?_
      refine r_if_ne (pc := 25) C 32 dX5_odds_25 (by decide) (fun c_3 => ?_) (fun c_3 => ?_)
      · skip
        have c_3 := bI_n.mp c_3
        refine r_aload_n (pc := 32) C 0 dX5_odds_32 rfl rfl ?_
        refine xg_now (pc := 33) C fl_RX5_10 dX5_odds_33 ?_
        refine xg_laws_0 (pc := 36) C fl_RX5_98 dX5_odds_36 ?_
        refine r_iconst (pc := 39) C 3 dX5_odds_39 (by decide) ?_
        refine xl_laws_0 (pc := 40) C 3 (rfl) (by omega) dX5_odds_40 (σ 0 7) rfl ?_
        refine r_eqi (y := nI c0) (hS) ?_
        refine r_istore (pc := 41) C [(4, .int (nI c0)), (0, .ref (h 0)), (1, .int (nI x)), (2, .int (nI z)), (3, .int q)] dX5_odds_41 (by decide) rfl ?_
        refine r_iload_n (pc := 43) C 2 dX5_odds_43 rfl rfl ?_
        refine r_iload_n (pc := 44) C 3 dX5_odds_44 rfl rfl ?_
        refine rc_Sl (pc := 45) C (t_X5_waysToChoose l ad D (tysW cs) (wX cs h σ) pre post  x z (by omega) (by omega)) ms_X5_waysToChoose ml_RX5_202 rfl ⟨Nat.le_of_ble_eq_true rfl, Nat.le_of_ble_eq_true rfl⟩ ⟨rfl, rfl⟩ rfl rfl rfl (Nat.le_of_ble_eq_true rfl) dX5_odds_45 ?_
        refine r_iload (pc := 48) C 0 dX5_odds_48 rfl ?_
        refine r_i2l (pc := 50) C dX5_odds_50 ?_
        refine r_eql (y := lN c0) (nI_l (by omega)) ?_
        refine r_iload_n (pc := 51) C 3 dX5_odds_51 rfl rfl ?_
        refine rc_Sl (pc := 52) C (t_X5_power l ad D (tysW cs) (wX cs h σ) pre post  c0 z (by omega)) ms_X5_power ml_RX5_206 rfl ⟨Nat.le_of_ble_eq_true rfl, Nat.le_of_ble_eq_true rfl⟩ ⟨rfl, rfl⟩ rfl rfl rfl (Nat.le_of_ble_eq_true rfl) dX5_odds_52 ?_
        refine r_lmul (pc := 55) C dX5_odds_55 ?_
        refine r_eql (y := lN (wyN x z z * c0 ^ z)) (lN_mul _ _) ?_
        refine r_bipush (pc := 56) C 100 dX5_odds_56 (by decide) ?_
        refine r_iload (pc := 58) C 0 dX5_odds_58 rfl ?_
        refine r_isub (pc := 60) C dX5_odds_60 ?_
        refine r_eqi (y := nI (100 - c0)) (pk_sub (a := 100) (by omega)) ?_
        refine r_i2l (pc := 61) C dX5_odds_61 ?_
        refine r_eql (y := lN (100 - c0)) (nI_l (by omega)) ?_
        refine r_iload_n (pc := 62) C 2 dX5_odds_62 rfl rfl ?_
        refine r_iload_n (pc := 63) C 3 dX5_odds_63 rfl rfl ?_
        refine r_isub (pc := 64) C dX5_odds_64 ?_
        refine r_eqi (y := nI (x - z)) (pk_sub (by omega)) ?_
        refine rc_Sl (pc := 65) C (t_X5_power l ad D (tysW cs) (wX cs h σ) pre post  (100 - c0) (x - z) (by omega)) ms_X5_power ml_RX5_206 rfl ⟨Nat.le_of_ble_eq_true rfl, Nat.le_of_ble_eq_true rfl⟩ ⟨rfl, rfl⟩ rfl rfl rfl (Nat.le_of_ble_eq_true rfl) dX5_odds_65 ?_
        refine r_lmul (pc := 68) C dX5_odds_68 ?_
        refine r_eql (y := lN (odA x z c0 x)) ((lN_mul _ _).trans (by rw [od_eq (by omega) h_z])) ?_
        refine r_lstore (pc := 69) C [(5, .long (lN (odA x z c0 x))), (4, .int (nI c0)), (0, .ref (h 0)), (1, .int (nI x)), (2, .int (nI z)), (3, .int q)] dX5_odds_69 (by decide) rfl ?_
        have o1 := odA_le (c := c0) (show x ≤ 8 by omega) h_z hs x
        have o2 := p100 (show x ≤ 8 by omega)
        have o4 : 0 < 100 ^ x := Nat.pow_pos (by decide)
        refine r_lload (pc := 71) C 0 dX5_odds_71 rfl ?_
        refine r_ldc2 (pc := 73) C dX5_odds_73 cn_RX5_210 ?_
        refine r_eql (y := lN 100) (rfl) ?_
        refine r_iload_n (pc := 76) C 3 dX5_odds_76 rfl rfl ?_
        refine rc_Sl (pc := 77) C (t_X5_power l ad D (tysW cs) (wX cs h σ) pre post  100 x (by omega)) ms_X5_power ml_RX5_206 rfl ⟨Nat.le_of_ble_eq_true rfl, Nat.le_of_ble_eq_true rfl⟩ ⟨rfl, rfl⟩ rfl rfl rfl (Nat.le_of_ble_eq_true rfl) dX5_odds_77 ?_
        refine r_iload_n (pc := 80) C 5 dX5_odds_80 rfl rfl ?_
        refine rc_Sl (pc := 81) C (t_X5_partOfFraction l ad D (tysW cs) (wX cs h σ) pre post  (odA x z c0 x) (100 ^ x) q (by omega) (by omega) (by omega)) ms_X5_partOfFraction ml_RX5_212 rfl ⟨Nat.le_of_ble_eq_true rfl, Nat.le_of_ble_eq_true rfl⟩ ⟨rfl, rfl⟩ rfl rfl rfl (Nat.le_of_ble_eq_true rfl) dX5_odds_81 ?_
        exact r_lret (pc := 84) C hr hlk dX5_odds_84 (by first | rfl | (simp [gateL, *]; done) | simp_all [gateL]) rfl
      · skip
        have c_3 := bI_0.mp c_3
        refine r_ldc2 (pc := 28) C dX5_odds_28 cn_RX5_200 ?_
        exact r_lret (pc := 31) C hr hlk dX5_odds_31 (by first | rfl | (simp [gateL, *]; done) | simp_all [gateL]) rfl
theorem t_X5_odds' (l : Launch) (ad : Nat → Nat) (D : va_G) (cs : Nat → ClassId) (h : Nat → Nat) (σ : Nat → Nat → Int32) (pre post : va_W) (f0_ : Nat → Int32) (e0_ : σ 0 = f0_) (n c0 : Nat) (a b q : Int32) (hN : f0_ 0 = nI n) (hn : n ≤ 8) (hS : f0_ 7 = nI c0) (hs : c0 ≤ 99) : CTl l yX5_odds cX5_odds 7 ({ frames := 3, cells := 0, slots := 0, locals := 79 }) ad D (tysW cs) (pre ++ (wX cs h σ ++ post)) [.ref (h 0), .int a, .int b, .int q] (gateL (inB a 0 8 && (inB b 0 a && inB q 0 1)) (lN (prtN (odA a.toNatClampNeg b.toNatClampNeg c0 a.toNatClampNeg) (100 ^ a.toNatClampNeg) q)) (-1)) (pre ++ (wX cs h σ ++ post)) := by
  subst e0_
  exact t_X5_odds l ad D cs h σ pre post n c0 a b q hN hn hS hs
theorem dX5_hope_0 : decode cX5_hope 0 = .ok (.iload_n 1, 1) := by decide +kernel
theorem dX5_hope_1 : decode cX5_hope 1 = .ok (.iconst 0, 1) := by decide +kernel
theorem dX5_hope_2 : decode cX5_hope 2 = .ok (.bipush 99, 2) := by decide +kernel
theorem dX5_hope_4 : decode cX5_hope 4 = .ok (.invokestatic 59, 3) := by decide +kernel
theorem dX5_hope_7 : decode cX5_hope 7 = .ok (.ifCond .eq 12, 3) := by decide +kernel
theorem dX5_hope_10 : decode cX5_hope 10 = .ok (.iload_n 2, 1) := by decide +kernel
theorem dX5_hope_11 : decode cX5_hope 11 = .ok (.iconst 0, 1) := by decide +kernel
theorem dX5_hope_12 : decode cX5_hope 12 = .ok (.iconst 1, 1) := by decide +kernel
theorem dX5_hope_13 : decode cX5_hope 13 = .ok (.invokestatic 59, 3) := by decide +kernel
theorem dX5_hope_16 : decode cX5_hope 16 = .ok (.ifCond .ne 7, 3) := by decide +kernel
theorem dX5_hope_19 : decode cX5_hope 19 = .ok (.ldc2_w 200, 3) := by decide +kernel
theorem dX5_hope_22 : decode cX5_hope 22 = .ok (.lreturn, 1) := by decide +kernel
theorem dX5_hope_23 : decode cX5_hope 23 = .ok (.iload_n 1, 1) := by decide +kernel
theorem dX5_hope_24 : decode cX5_hope 24 = .ok (.i2l, 1) := by decide +kernel
theorem dX5_hope_25 : decode cX5_hope 25 = .ok (.aload_n 0, 1) := by decide +kernel
theorem dX5_hope_26 : decode cX5_hope 26 = .ok (.getfield 10, 3) := by decide +kernel
theorem dX5_hope_29 : decode cX5_hope 29 = .ok (.getfield 98, 3) := by decide +kernel
theorem dX5_hope_32 : decode cX5_hope 32 = .ok (.iconst 3, 1) := by decide +kernel
theorem dX5_hope_33 : decode cX5_hope 33 = .ok (.iaload, 1) := by decide +kernel
theorem dX5_hope_34 : decode cX5_hope 34 = .ok (.i2l, 1) := by decide +kernel
theorem dX5_hope_35 : decode cX5_hope 35 = .ok (.lmul, 1) := by decide +kernel
theorem dX5_hope_36 : decode cX5_hope 36 = .ok (.ldc2_w 210, 3) := by decide +kernel
theorem dX5_hope_39 : decode cX5_hope 39 = .ok (.iload_n 2, 1) := by decide +kernel
theorem dX5_hope_40 : decode cX5_hope 40 = .ok (.invokestatic 212, 3) := by decide +kernel
theorem dX5_hope_43 : decode cX5_hope 43 = .ok (.lreturn, 1) := by decide +kernel
set_option maxHeartbeats 400000 in
set_option maxRecDepth 20000 in
theorem t_X5_hope (l : Launch) (ad : Nat → Nat) (D : va_G) (cs : Nat → ClassId) (h : Nat → Nat) (σ : Nat → Nat → Int32) (pre post : va_W) (n c0 : Nat) (a q : Int32) (hN : σ 0 0 = nI n) (hn : n ≤ 8) (hS : σ 0 7 = nI c0) (hs : c0 ≤ 99) : CTl l yX5_hope cX5_hope 3 ({ frames := 3, cells := 0, slots := 0, locals := 79 }) ad D (tysW cs) (pre ++ (wX cs h σ ++ post)) [.ref (h 0), .int a, .int q] (gateL (inB a 0 99 && inB q 0 1) (lN (prtN (a.toNatClampNeg * c0) 100 q)) (-1)) (pre ++ (wX cs h σ ++ post)) := by
  refine CTl.of (lv0 := [(0, .ref (h 0)), (1, .int a), (2, .int q)]) (by decide) rfl (Nat.le_of_ble_eq_true rfl) (fun p e s m args below meth c A C hr hlk => ?_)
  have C : Cx p s m args c cX5_hope 3 RX5 ad D (tysW cs) A := C
  refine r_iload_n (pc := 0) C 1 dX5_hope_0 rfl rfl ?_
  refine r_iconst (pc := 1) C 0 dX5_hope_1 (by decide) ?_
  refine r_bipush (pc := 2) C 99 dX5_hope_2 (by decide) ?_
  refine rc_Si (pc := 4) C (t_X5_isWithin l ad D (tysW cs) (wX cs h σ) pre post  a (0 : Int32) (99 : Int32) ) ms_X5_isWithin ml_RX5_59 rfl ⟨Nat.le_of_ble_eq_true rfl, Nat.le_of_ble_eq_true rfl⟩ ⟨rfl, rfl⟩ rfl rfl rfl (Nat.le_of_ble_eq_true rfl) dX5_hope_4 ?_
  refine r_if_eq (pc := 7) C 19 dX5_hope_7 (by decide) (fun c_1 => ?_) (fun c_1 => ?_)
  · skip
    have c_1 := bI_0.mp c_1
    refine r_ldc2 (pc := 19) C dX5_hope_19 cn_RX5_200 ?_
    exact r_lret (pc := 22) C hr hlk dX5_hope_22 (by first | rfl | (simp [gateL, *]; done) | simp_all [gateL]) rfl
  · skip
    have c_1 := bI_n.mp c_1
    obtain ⟨x, l_x, h_x, rfl⟩ := rng_nat 0 99 (by decide) (by decide) c_1
    have e_x : (nI x).toNatClampNeg = x := nI_clamp (by omega)
    refine r_iload_n (pc := 10) C 2 dX5_hope_10 rfl rfl ?_
    refine r_iconst (pc := 11) C 0 dX5_hope_11 (by decide) ?_
    refine r_iconst (pc := 12) C 1 dX5_hope_12 (by decide) ?_
    refine rc_Si (pc := 13) C (t_X5_isWithin l ad D (tysW cs) (wX cs h σ) pre post  q (0 : Int32) (1 : Int32) ) ms_X5_isWithin ml_RX5_59 rfl ⟨Nat.le_of_ble_eq_true rfl, Nat.le_of_ble_eq_true rfl⟩ ⟨rfl, rfl⟩ rfl rfl rfl (Nat.le_of_ble_eq_true rfl) dX5_hope_13 ?_
    refine r_if_ne (pc := 16) C 23 dX5_hope_16 (by decide) (fun c_2 => ?_) (fun c_2 => ?_)
    · skip
      have c_2 := bI_n.mp c_2
      refine r_iload_n (pc := 23) C 1 dX5_hope_23 rfl rfl ?_
      refine r_i2l (pc := 24) C dX5_hope_24 ?_
      refine r_eql (y := lN x) (nI_l (by omega)) ?_
      refine r_aload_n (pc := 25) C 0 dX5_hope_25 rfl rfl ?_
      refine xg_now (pc := 26) C fl_RX5_10 dX5_hope_26 ?_
      refine xg_laws_0 (pc := 29) C fl_RX5_98 dX5_hope_29 ?_
      refine r_iconst (pc := 32) C 3 dX5_hope_32 (by decide) ?_
      refine xl_laws_0 (pc := 33) C 3 (rfl) (by omega) dX5_hope_33 (σ 0 7) rfl ?_
      refine r_eqi (y := nI c0) (hS) ?_
      refine r_i2l (pc := 34) C dX5_hope_34 ?_
      refine r_eql (y := lN c0) (nI_l (by omega)) ?_
      refine r_lmul (pc := 35) C dX5_hope_35 ?_
      refine r_eql (y := lN (x * c0)) (lN_mul _ _) ?_
      have hm_ : x * c0 ≤ 99 * 99 := Nat.mul_le_mul h_x hs
      refine r_ldc2 (pc := 36) C dX5_hope_36 cn_RX5_210 ?_
      refine r_eql (y := lN 100) (rfl) ?_
      refine r_iload_n (pc := 39) C 2 dX5_hope_39 rfl rfl ?_
      refine rc_Sl (pc := 40) C (t_X5_partOfFraction l ad D (tysW cs) (wX cs h σ) pre post  (x * c0) 100 q (by omega) (by omega) (by omega)) ms_X5_partOfFraction ml_RX5_212 rfl ⟨Nat.le_of_ble_eq_true rfl, Nat.le_of_ble_eq_true rfl⟩ ⟨rfl, rfl⟩ rfl rfl rfl (Nat.le_of_ble_eq_true rfl) dX5_hope_40 ?_
      exact r_lret (pc := 43) C hr hlk dX5_hope_43 (by first | rfl | (simp [gateL, *]; done) | simp_all [gateL]) rfl
    · skip
      have c_2 := bI_0.mp c_2
      refine r_ldc2 (pc := 19) C dX5_hope_19 cn_RX5_200 ?_
      exact r_lret (pc := 22) C hr hlk dX5_hope_22 (by first | rfl | (simp [gateL, *]; done) | simp_all [gateL]) rfl
theorem t_X5_hope' (l : Launch) (ad : Nat → Nat) (D : va_G) (cs : Nat → ClassId) (h : Nat → Nat) (σ : Nat → Nat → Int32) (pre post : va_W) (f0_ : Nat → Int32) (e0_ : σ 0 = f0_) (n c0 : Nat) (a q : Int32) (hN : f0_ 0 = nI n) (hn : n ≤ 8) (hS : f0_ 7 = nI c0) (hs : c0 ≤ 99) : CTl l yX5_hope cX5_hope 3 ({ frames := 3, cells := 0, slots := 0, locals := 79 }) ad D (tysW cs) (pre ++ (wX cs h σ ++ post)) [.ref (h 0), .int a, .int q] (gateL (inB a 0 99 && inB q 0 1) (lN (prtN (a.toNatClampNeg * c0) 100 q)) (-1)) (pre ++ (wX cs h σ ++ post)) := by
  subst e0_
  exact t_X5_hope l ad D cs h σ pre post n c0 a q hN hn hS hs
theorem dX5_worthWithLast_0 : decode cX5_worthWithLast 0 = .ok (.aload_n 0, 1) := by decide +kernel
theorem dX5_worthWithLast_1 : decode cX5_worthWithLast 1 = .ok (.getfield 53, 3) := by decide +kernel
theorem dX5_worthWithLast_4 : decode cX5_worthWithLast 4 = .ok (.iload_n 2, 1) := by decide +kernel
theorem dX5_worthWithLast_5 : decode cX5_worthWithLast 5 = .ok (.iaload, 1) := by decide +kernel
theorem dX5_worthWithLast_6 : decode cX5_worthWithLast 6 = .ok (.istore_n 3, 1) := by decide +kernel
theorem dX5_worthWithLast_7 : decode cX5_worthWithLast 7 = .ok (.iconst 0, 1) := by decide +kernel
theorem dX5_worthWithLast_8 : decode cX5_worthWithLast 8 = .ok (.istore 4, 2) := by decide +kernel
theorem dX5_worthWithLast_10 : decode cX5_worthWithLast 10 = .ok (.iload 4, 2) := by decide +kernel
theorem dX5_worthWithLast_12 : decode cX5_worthWithLast 12 = .ok (.iload_n 1, 1) := by decide +kernel
theorem dX5_worthWithLast_13 : decode cX5_worthWithLast 13 = .ok (.if_icmp .ge 47, 3) := by decide +kernel
theorem dX5_worthWithLast_16 : decode cX5_worthWithLast 16 = .ok (.iconst 1, 1) := by decide +kernel
theorem dX5_worthWithLast_17 : decode cX5_worthWithLast 17 = .ok (.iload 4, 2) := by decide +kernel
theorem dX5_worthWithLast_19 : decode cX5_worthWithLast 19 = .ok (.ishl, 1) := by decide +kernel
theorem dX5_worthWithLast_20 : decode cX5_worthWithLast 20 = .ok (.istore 5, 2) := by decide +kernel
theorem dX5_worthWithLast_22 : decode cX5_worthWithLast 22 = .ok (.iload_n 2, 1) := by decide +kernel
theorem dX5_worthWithLast_23 : decode cX5_worthWithLast 23 = .ok (.iload 5, 2) := by decide +kernel
theorem dX5_worthWithLast_25 : decode cX5_worthWithLast 25 = .ok (.iand, 1) := by decide +kernel
theorem dX5_worthWithLast_26 : decode cX5_worthWithLast 26 = .ok (.ifCond .eq 28, 3) := by decide +kernel
theorem dX5_worthWithLast_29 : decode cX5_worthWithLast 29 = .ok (.iload_n 3, 1) := by decide +kernel
theorem dX5_worthWithLast_30 : decode cX5_worthWithLast 30 = .ok (.aload_n 0, 1) := by decide +kernel
theorem dX5_worthWithLast_31 : decode cX5_worthWithLast 31 = .ok (.getfield 10, 3) := by decide +kernel
theorem dX5_worthWithLast_34 : decode cX5_worthWithLast 34 = .ok (.iload_n 1, 1) := by decide +kernel
theorem dX5_worthWithLast_35 : decode cX5_worthWithLast 35 = .ok (.iload 4, 2) := by decide +kernel
theorem dX5_worthWithLast_37 : decode cX5_worthWithLast 37 = .ok (.invokevirtual 315, 3) := by decide +kernel
theorem dX5_worthWithLast_40 : decode cX5_worthWithLast 40 = .ok (.aload_n 0, 1) := by decide +kernel
theorem dX5_worthWithLast_41 : decode cX5_worthWithLast 41 = .ok (.getfield 53, 3) := by decide +kernel
theorem dX5_worthWithLast_44 : decode cX5_worthWithLast 44 = .ok (.iload_n 2, 1) := by decide +kernel
theorem dX5_worthWithLast_45 : decode cX5_worthWithLast 45 = .ok (.iload 5, 2) := by decide +kernel
theorem dX5_worthWithLast_47 : decode cX5_worthWithLast 47 = .ok (.ixor, 1) := by decide +kernel
theorem dX5_worthWithLast_48 : decode cX5_worthWithLast 48 = .ok (.iaload, 1) := by decide +kernel
theorem dX5_worthWithLast_49 : decode cX5_worthWithLast 49 = .ok (.iadd, 1) := by decide +kernel
theorem dX5_worthWithLast_50 : decode cX5_worthWithLast 50 = .ok (.invokestatic 306, 3) := by decide +kernel
theorem dX5_worthWithLast_53 : decode cX5_worthWithLast 53 = .ok (.istore_n 3, 1) := by decide +kernel
theorem dX5_worthWithLast_54 : decode cX5_worthWithLast 54 = .ok (.iinc 4 1, 3) := by decide +kernel
theorem dX5_worthWithLast_57 : decode cX5_worthWithLast 57 = .ok (.goto (-47), 3) := by decide +kernel
theorem dX5_worthWithLast_60 : decode cX5_worthWithLast 60 = .ok (.iload_n 3, 1) := by decide +kernel
theorem dX5_worthWithLast_61 : decode cX5_worthWithLast 61 = .ok (.ireturn, 1) := by decide +kernel
set_option maxHeartbeats 400000 in
set_option maxRecDepth 20000 in
theorem t_X5_worthWithLast (l : Launch) (ad : Nat → Nat) (D : va_G) (cs : Nat → ClassId) (h : Nat → Nat) (σ : Nat → Nat → Int32) (pre post : va_W) (n : Nat) (b r : Nat) (hN : σ 0 0 = nI n) (hn : n ≤ 8) (hR : rgM n (σ 0)) (hb : b < n) (hrr : r < 2 ^ b) : CTi l yX5_worthWithLast cX5_worthWithLast 6 .int ({ frames := 4, cells := 0, slots := 0, locals := 90 }) ad D (tysW cs) (pre ++ (wX cs h σ ++ post)) [.ref (h 0), .int (nI b), .int (nI r)] (hwQ (σ 0) (σ 12) b r b) (pre ++ (wX cs h σ ++ post)) := by
  refine CTi.of (lv0 := [(0, .ref (h 0)), (1, .int (nI b)), (2, .int (nI r))]) (by decide) rfl (Nat.le_of_ble_eq_true rfl) (fun p e s m args below meth c A C hr hlk => ?_)
  have C : Cx p s m args c cX5_worthWithLast 6 RX5 ad D (tysW cs) A := C
  have hr2 : r < 256 := Nat.lt_of_lt_of_le hrr (Nat.le_trans (pw_8 (show b < 8 by omega)) (by decide))
  refine r_aload_n (pc := 0) C 0 dX5_worthWithLast_0 rfl rfl ?_
  refine xg_worthOfSet (pc := 1) C fl_RX5_53 dX5_worthWithLast_1 ?_
  refine r_iload_n (pc := 4) C 2 dX5_worthWithLast_4 rfl rfl ?_
  refine xl_worth (pc := 5) C r (rfl) (by omega) dX5_worthWithLast_5 (σ 12 r) rfl ?_
  refine r_istore_n (pc := 6) C [(3, .int (σ 12 r)), (0, .ref (h 0)), (1, .int (nI b)), (2, .int (nI r))] dX5_worthWithLast_6 rfl (by decide) rfl ?_
  refine r_iconst (pc := 7) C 0 dX5_worthWithLast_7 (by decide) ?_
  refine r_istore (pc := 8) C [(4, .int 0), (3, .int (σ 12 r)), (0, .ref (h 0)), (1, .int (nI b)), (2, .int (nI r))] dX5_worthWithLast_8 (by decide) rfl ?_
  refine r_pick (lv' := [(0, .ref (h 0)), (1, .int (nI b)), (2, .int (nI r)), (3, .int (σ 12 r)), (4, .int 0)]) [2, 3, 4, 1, 0] rfl ?_
  refine r_lv (lv' := [(0, .ref (h 0)), (1, .int (nI b)), (2, .int (nI r)), (3, .int (hwQ (σ 0) (σ 12) b r 0)), (4, .int 0)]) (rfl) ?_
  refine r_loop (blkf := fun q => wX cs h σ) (lvf := fun q => [(0, .ref (h 0)), (1, .int (nI b)), (2, .int (nI r)), (3, .int (hwQ (σ 0) (σ 12) b r q)), (4, .int (nI q))]) (fun q => True) b 0 (by omega) (trivial) (fun q h_q _ ih_10 => ?_)
  show VX p l e _ s m args below meth c _ D A 6 pre (wX cs h σ) post 10 [(0, .ref (h 0)), (1, .int (nI b)), (2, .int (nI r)), (3, .int (hwQ (σ 0) (σ 12) b r q)), (4, .int (nI q))] []
  refine r_iload (pc := 10) C 4 dX5_worthWithLast_10 rfl ?_
  refine r_iload_n (pc := 12) C 1 dX5_worthWithLast_12 rfl rfl ?_
  refine r_icmp_ge (pc := 13) C 60 dX5_worthWithLast_13 (by decide) (fun c_1 => ?_) (fun c_1 => ?_)
  · skip
    have c_1 := nIc_ge_t (a := q) (b := b) (by omega) (by omega) c_1
    obtain rfl : b = q := by omega
    refine r_iload_n (pc := 60) C 3 dX5_worthWithLast_60 rfl rfl ?_
    exact r_iret (pc := 61) C hr hlk dX5_worthWithLast_61 rfl rfl rfl
  · skip
    have c_1 := nIc_ge_f (a := q) (b := b) (by omega) (by omega) c_1
    refine r_iconst (pc := 16) C 1 dX5_worthWithLast_16 (by decide) ?_
    refine r_iload (pc := 17) C 4 dX5_worthWithLast_17 rfl ?_
    refine r_ishl (pc := 19) C dX5_worthWithLast_19 ?_
    refine r_eqi (y := nI (2 ^ q)) (bitI_N (by omega)) ?_
    refine r_istore (pc := 20) C [(5, .int (nI (2 ^ q))), (0, .ref (h 0)), (1, .int (nI b)), (2, .int (nI r)), (3, .int (hwQ (σ 0) (σ 12) b r q)), (4, .int (nI q))] dX5_worthWithLast_20 (by decide) rfl ?_
    refine r_iload_n (pc := 22) C 3 dX5_worthWithLast_22 rfl rfl ?_
    refine r_iload (pc := 23) C 0 dX5_worthWithLast_23 rfl ?_
    refine r_iand (pc := 25) C dX5_worthWithLast_25 ?_
    refine r_eqi (y := nI (r &&& 2 ^ q)) (nI_and _ _) ?_
    have ha_ : r &&& 2 ^ q < 2 ^ 31 := Nat.lt_of_le_of_lt Nat.and_le_left (by omega)
    refine r_if_eq (pc := 26) C 54 dX5_worthWithLast_26 (by decide) (fun c_2 => ?_) (fun c_2 => ?_)
    · skip
      have c_2 := nIc_eq_t (a := (r &&& 2 ^ q)) (b := 0) (by omega) (by omega) c_2
      have hq_ := (ab_all r hr2 q (by omega)).mp c_2
      refine r_iinc (pc := 54) C (nI (q + 1)) 5 [(4, .int (nI (q + 1))), (5, .int (nI (2 ^ q))), (0, .ref (h 0)), (1, .int (nI b)), (2, .int (nI r)), (3, .int (hwQ (σ 0) (σ 12) b r q))] dX5_worthWithLast_54 rfl (nI_1 _) (by decide) rfl ?_
      refine r_goto (pc := 57) C 10 dX5_worthWithLast_57 (by decide) ?_
      refine r_pick (lv' := [(0, .ref (h 0)), (1, .int (nI b)), (2, .int (nI r)), (3, .int (hwQ (σ 0) (σ 12) b r q)), (4, .int (nI (q + 1)))]) [2, 3, 4, 5, 0] rfl ?_
      refine r_lv (lv' := [(0, .ref (h 0)), (1, .int (nI b)), (2, .int (nI r)), (3, .int (hwQ (σ 0) (σ 12) b r (q + 1))), (4, .int (nI (q + 1)))]) (lvc rfl (lvc rfl (lvc rfl (lvc (congrArg Value.int (show (hwQ (σ 0) (σ 12) b r q : Int32) = hwQ (σ 0) (σ 12) b r (q + 1) from (if_neg ‹_›).symm)) (lvc rfl rfl))))) ?_
      exact ih_10 (by omega) (trivial)
    · skip
      have c_2 := nIc_eq_f (a := (r &&& 2 ^ q)) (b := 0) (by omega) (by omega) c_2
      have hq_ : r / 2 ^ q % 2 = 1 := Decidable.not_not.mp (fun k_ => c_2 ((ab_all r hr2 q (by omega)).mpr k_))
      have hq0_ := Nat.two_pow_pos q
      refine r_iload_n (pc := 29) C 4 dX5_worthWithLast_29 rfl rfl ?_
      refine r_aload_n (pc := 30) C 1 dX5_worthWithLast_30 rfl rfl ?_
      refine xg_now (pc := 31) C fl_RX5_10 dX5_worthWithLast_31 ?_
      refine r_iload_n (pc := 34) C 2 dX5_worthWithLast_34 rfl rfl ?_
      refine r_iload (pc := 35) C 5 dX5_worthWithLast_35 rfl ?_
      refine rc_Vi (pc := 37) C (t_X0_worthOfPair' l ad D cs (fun j => h (1 + j)) (fun _ => σ 0) (pre ++ xA_0 cs h σ) (xC_0 cs h σ ++ post) (σ 0) rfl n b q hN hn hb (by omega) hR) mv_X0_worthOfPair ml_RX5_315 rfl ⟨Nat.le_of_ble_eq_true rfl, Nat.le_of_ble_eq_true rfl⟩ ⟨rfl, rfl⟩ (q0 := 0) rfl rfl rfl fx_0 fx_0.symm rfl (Nat.le_of_ble_eq_true rfl) dX5_worthWithLast_37 ?_
      refine r_aload_n (pc := 40) C 1 dX5_worthWithLast_40 rfl rfl ?_
      refine xg_worthOfSet (pc := 41) C fl_RX5_53 dX5_worthWithLast_41 ?_
      refine r_iload_n (pc := 44) C 3 dX5_worthWithLast_44 rfl rfl ?_
      refine r_iload (pc := 45) C 0 dX5_worthWithLast_45 rfl ?_
      refine r_ixor (pc := 47) C dX5_worthWithLast_47 ?_
      refine r_eqi (y := nI (r - 2 ^ q)) (xo_all r hr2 q (by omega) hq_) ?_
      refine xl_worth (pc := 48) C (r - 2 ^ q) (rfl) (by omega) dX5_worthWithLast_48 (σ 12 (r - 2 ^ q)) rfl ?_
      refine r_iadd (pc := 49) C dX5_worthWithLast_49 ?_
      refine r_mmax (pc := 50) C ml_RX5_306' (Nat.le_of_ble_eq_true rfl) (Nat.le_of_ble_eq_true rfl) (Nat.le_of_ble_eq_true rfl) dX5_worthWithLast_50 ?_
      refine r_eqi (y := mxI (hwQ (σ 0) (σ 12) b r q) ((woF (σ 0) b q) + (σ 12 (r - 2 ^ q)))) (mmax_mx _ _) ?_
      refine r_istore_n (pc := 53) C [(3, .int (mxI (hwQ (σ 0) (σ 12) b r q) ((woF (σ 0) b q) + (σ 12 (r - 2 ^ q))))), (5, .int (nI (2 ^ q))), (0, .ref (h 0)), (1, .int (nI b)), (2, .int (nI r)), (4, .int (nI q))] dX5_worthWithLast_53 rfl (by decide) rfl ?_
      refine r_iinc (pc := 54) C (nI (q + 1)) 5 [(4, .int (nI (q + 1))), (3, .int (mxI (hwQ (σ 0) (σ 12) b r q) ((woF (σ 0) b q) + (σ 12 (r - 2 ^ q))))), (5, .int (nI (2 ^ q))), (0, .ref (h 0)), (1, .int (nI b)), (2, .int (nI r))] dX5_worthWithLast_54 rfl (nI_1 _) (by decide) rfl ?_
      refine r_goto (pc := 57) C 10 dX5_worthWithLast_57 (by decide) ?_
      refine r_pick (lv' := [(0, .ref (h 0)), (1, .int (nI b)), (2, .int (nI r)), (3, .int (mxI (hwQ (σ 0) (σ 12) b r q) ((woF (σ 0) b q) + (σ 12 (r - 2 ^ q))))), (4, .int (nI (q + 1)))]) [3, 4, 5, 1, 0] rfl ?_
      refine r_lv (lv' := [(0, .ref (h 0)), (1, .int (nI b)), (2, .int (nI r)), (3, .int (hwQ (σ 0) (σ 12) b r (q + 1))), (4, .int (nI (q + 1)))]) (lvc rfl (lvc rfl (lvc rfl (lvc (congrArg Value.int (show (mxI (hwQ (σ 0) (σ 12) b r q) ((woF (σ 0) b q) + (σ 12 (r - 2 ^ q))) : Int32) = hwQ (σ 0) (σ 12) b r (q + 1) from (if_pos ‹_›).symm)) (lvc rfl rfl))))) ?_
      exact ih_10 (by omega) (trivial)
theorem t_X5_worthWithLast' (l : Launch) (ad : Nat → Nat) (D : va_G) (cs : Nat → ClassId) (h : Nat → Nat) (σ : Nat → Nat → Int32) (pre post : va_W) (f0_ : Nat → Int32) (e0_ : σ 0 = f0_) (f12_ : Nat → Int32) (e12_ : σ 12 = f12_) (n : Nat) (b r : Nat) (hN : f0_ 0 = nI n) (hn : n ≤ 8) (hR : rgM n f0_) (hb : b < n) (hrr : r < 2 ^ b) : CTi l yX5_worthWithLast cX5_worthWithLast 6 .int ({ frames := 4, cells := 0, slots := 0, locals := 90 }) ad D (tysW cs) (pre ++ (wX cs h σ ++ post)) [.ref (h 0), .int (nI b), .int (nI r)] (hwQ f0_ (f12_) b r b) (pre ++ (wX cs h σ ++ post)) := by
  subst e0_; subst e12_
  exact t_X5_worthWithLast l ad D cs h σ pre post n b r hN hn hR hb hrr
theorem dX5_paired_0 : decode cX5_paired 0 = .ok (.aload_n 0, 1) := by decide +kernel
theorem dX5_paired_1 : decode cX5_paired 1 = .ok (.getfield 53, 3) := by decide +kernel
theorem dX5_paired_4 : decode cX5_paired 4 = .ok (.iconst 0, 1) := by decide +kernel
theorem dX5_paired_5 : decode cX5_paired 5 = .ok (.iconst 0, 1) := by decide +kernel
theorem dX5_paired_6 : decode cX5_paired 6 = .ok (.iastore, 1) := by decide +kernel
theorem dX5_paired_7 : decode cX5_paired 7 = .ok (.iconst 0, 1) := by decide +kernel
theorem dX5_paired_8 : decode cX5_paired 8 = .ok (.istore_n 1, 1) := by decide +kernel
theorem dX5_paired_9 : decode cX5_paired 9 = .ok (.iload_n 1, 1) := by decide +kernel
theorem dX5_paired_10 : decode cX5_paired 10 = .ok (.aload_n 0, 1) := by decide +kernel
theorem dX5_paired_11 : decode cX5_paired 11 = .ok (.getfield 10, 3) := by decide +kernel
theorem dX5_paired_14 : decode cX5_paired 14 = .ok (.getfield 88, 3) := by decide +kernel
theorem dX5_paired_17 : decode cX5_paired 17 = .ok (.if_icmp .ge 40, 3) := by decide +kernel
theorem dX5_paired_20 : decode cX5_paired 20 = .ok (.iconst 1, 1) := by decide +kernel
theorem dX5_paired_21 : decode cX5_paired 21 = .ok (.iload_n 1, 1) := by decide +kernel
theorem dX5_paired_22 : decode cX5_paired 22 = .ok (.ishl, 1) := by decide +kernel
theorem dX5_paired_23 : decode cX5_paired 23 = .ok (.istore_n 2, 1) := by decide +kernel
theorem dX5_paired_24 : decode cX5_paired 24 = .ok (.iconst 0, 1) := by decide +kernel
theorem dX5_paired_25 : decode cX5_paired 25 = .ok (.istore_n 3, 1) := by decide +kernel
theorem dX5_paired_26 : decode cX5_paired 26 = .ok (.iload_n 3, 1) := by decide +kernel
theorem dX5_paired_27 : decode cX5_paired 27 = .ok (.iload_n 2, 1) := by decide +kernel
theorem dX5_paired_28 : decode cX5_paired 28 = .ok (.if_icmp .ge 23, 3) := by decide +kernel
theorem dX5_paired_31 : decode cX5_paired 31 = .ok (.aload_n 0, 1) := by decide +kernel
theorem dX5_paired_32 : decode cX5_paired 32 = .ok (.getfield 53, 3) := by decide +kernel
theorem dX5_paired_35 : decode cX5_paired 35 = .ok (.iload_n 3, 1) := by decide +kernel
theorem dX5_paired_36 : decode cX5_paired 36 = .ok (.iload_n 2, 1) := by decide +kernel
theorem dX5_paired_37 : decode cX5_paired 37 = .ok (.ior, 1) := by decide +kernel
theorem dX5_paired_38 : decode cX5_paired 38 = .ok (.aload_n 0, 1) := by decide +kernel
theorem dX5_paired_39 : decode cX5_paired 39 = .ok (.iload_n 1, 1) := by decide +kernel
theorem dX5_paired_40 : decode cX5_paired 40 = .ok (.iload_n 3, 1) := by decide +kernel
theorem dX5_paired_41 : decode cX5_paired 41 = .ok (.invokevirtual 187, 3) := by decide +kernel
theorem dX5_paired_44 : decode cX5_paired 44 = .ok (.iastore, 1) := by decide +kernel
theorem dX5_paired_45 : decode cX5_paired 45 = .ok (.iinc 3 1, 3) := by decide +kernel
theorem dX5_paired_48 : decode cX5_paired 48 = .ok (.goto (-22), 3) := by decide +kernel
theorem dX5_paired_51 : decode cX5_paired 51 = .ok (.iinc 1 1, 3) := by decide +kernel
theorem dX5_paired_54 : decode cX5_paired 54 = .ok (.goto (-45), 3) := by decide +kernel
theorem dX5_paired_57 : decode cX5_paired 57 = .ok (.aload_n 0, 1) := by decide +kernel
theorem dX5_paired_58 : decode cX5_paired 58 = .ok (.getfield 53, 3) := by decide +kernel
theorem dX5_paired_61 : decode cX5_paired 61 = .ok (.iconst 1, 1) := by decide +kernel
theorem dX5_paired_62 : decode cX5_paired 62 = .ok (.aload_n 0, 1) := by decide +kernel
theorem dX5_paired_63 : decode cX5_paired 63 = .ok (.getfield 10, 3) := by decide +kernel
theorem dX5_paired_66 : decode cX5_paired 66 = .ok (.getfield 88, 3) := by decide +kernel
theorem dX5_paired_69 : decode cX5_paired 69 = .ok (.ishl, 1) := by decide +kernel
theorem dX5_paired_70 : decode cX5_paired 70 = .ok (.iconst 1, 1) := by decide +kernel
theorem dX5_paired_71 : decode cX5_paired 71 = .ok (.isub, 1) := by decide +kernel
theorem dX5_paired_72 : decode cX5_paired 72 = .ok (.iaload, 1) := by decide +kernel
theorem dX5_paired_73 : decode cX5_paired 73 = .ok (.ireturn, 1) := by decide +kernel
set_option maxHeartbeats 400000 in
set_option maxRecDepth 20000 in
theorem t_X5_paired (l : Launch) (ad : Nat → Nat) (D : va_G) (cs : Nat → ClassId) (h : Nat → Nat) (σ : Nat → Nat → Int32) (pre post : va_W) (n : Nat) (hN : σ 0 0 = nI n) (hn : n ≤ 8) (hR : rgM n (σ 0)) : CTi l yX5_paired cX5_paired 4 .int ({ frames := 5, cells := 0, slots := 0, locals := 115 }) ad D (tysW cs) (pre ++ (wX cs h σ ++ post)) [.ref (h 0)] (hpL (σ 0) (σ 12) n (2 ^ n - 1)) (pre ++ (wX cs h (su σ 12 (hpL (σ 0) (σ 12) n)) ++ post)) := by
  refine CTi.of (lv0 := [(0, .ref (h 0))]) (by decide) rfl (Nat.le_of_ble_eq_true rfl) (fun p e s m args below meth c A C hr hlk => ?_)
  have C : Cx p s m args c cX5_paired 4 RX5 ad D (tysW cs) A := C
  have hp := pow_256 hn
  have hp0 : 0 < 2 ^ n := Nat.two_pow_pos n
  refine r_aload_n (pc := 0) C 0 dX5_paired_0 rfl rfl ?_
  refine xg_worthOfSet (pc := 1) C fl_RX5_53 dX5_paired_1 ?_
  refine r_iconst (pc := 4) C 0 dX5_paired_4 (by decide) ?_
  refine r_iconst (pc := 5) C 0 dX5_paired_5 (by decide) ?_
  refine xs_worth (pc := 6) C 0 (rfl) (by omega) dX5_paired_6 (σ 12) (rfl) ?_
  refine r_iconst (pc := 7) C 0 dX5_paired_7 (by decide) ?_
  refine r_istore_n (pc := 8) C [(1, .int 0), (0, .ref (h 0))] dX5_paired_8 rfl (by decide) rfl ?_
  refine r_pick (lv' := [(0, .ref (h 0)), (1, .int 0)]) [1, 0] rfl ?_
  refine r_blk (blk' := wX cs h (su σ 12 (hpL (σ 0) (σ 12) 0))) (rfl) ?_
  refine r_loop (blkf := fun b => wX cs h (su σ 12 (hpL (σ 0) (σ 12) b))) (lvf := fun b => [(0, .ref (h 0)), (1, .int (nI b))]) (fun b => True) n 0 (by omega) (trivial) (fun b h_b _ ih_9 => ?_)
  show VX p l e _ s m args below meth c _ D A 4 pre (wX cs h (su σ 12 (hpL (σ 0) (σ 12) b))) post 9 [(0, .ref (h 0)), (1, .int (nI b))] []
  refine r_iload_n (pc := 9) C 1 dX5_paired_9 rfl rfl ?_
  refine r_aload_n (pc := 10) C 0 dX5_paired_10 rfl rfl ?_
  refine xg_now (pc := 11) C fl_RX5_10 dX5_paired_11 ?_
  refine xg_count_0 (pc := 14) C fl_RX5_88 dX5_paired_14 (σ 0 0) (congrFun ((su_nn (by decide))) 0) ?_
  refine r_eqi (y := nI n) (hN) ?_
  refine r_icmp_ge (pc := 17) C 57 dX5_paired_17 (by decide) (fun c_1 => ?_) (fun c_1 => ?_)
  · skip
    have c_1 := nIc_ge_t (a := b) (b := n) (by omega) (by omega) c_1
    obtain rfl : n = b := by omega
    refine r_aload_n (pc := 57) C 0 dX5_paired_57 rfl rfl ?_
    refine xg_worthOfSet (pc := 58) C fl_RX5_53 dX5_paired_58 ?_
    refine r_iconst (pc := 61) C 1 dX5_paired_61 (by decide) ?_
    refine r_aload_n (pc := 62) C 0 dX5_paired_62 rfl rfl ?_
    refine xg_now (pc := 63) C fl_RX5_10 dX5_paired_63 ?_
    refine xg_count_0 (pc := 66) C fl_RX5_88 dX5_paired_66 (σ 0 0) (congrFun ((su_nn (by decide))) 0) ?_
    refine r_eqi (y := nI n) (hN) ?_
    refine r_ishl (pc := 69) C dX5_paired_69 ?_
    refine r_eqi (y := nI (2 ^ n)) (bitI_N (by omega)) ?_
    refine r_iconst (pc := 70) C 1 dX5_paired_70 (by decide) ?_
    refine r_isub (pc := 71) C dX5_paired_71 ?_
    refine r_eqi (y := nI (2 ^ n - 1)) (pk_sub (b := 1) (by omega)) ?_
    refine xl_worth (pc := 72) C (2 ^ n - 1) (rfl) (by omega) dX5_paired_72 (hpL (σ 0) (σ 12) n (2 ^ n - 1)) (congrFun (su_at) (2 ^ n - 1)) ?_
    exact r_iret (pc := 73) C hr hlk dX5_paired_73 rfl rfl rfl
  · skip
    have c_1 := nIc_ge_f (a := b) (b := n) (by omega) (by omega) c_1
    refine r_iconst (pc := 20) C 1 dX5_paired_20 (by decide) ?_
    refine r_iload_n (pc := 21) C 1 dX5_paired_21 rfl rfl ?_
    refine r_ishl (pc := 22) C dX5_paired_22 ?_
    refine r_eqi (y := nI (2 ^ b)) (bitI_N (by omega)) ?_
    refine r_istore_n (pc := 23) C [(2, .int (nI (2 ^ b))), (0, .ref (h 0)), (1, .int (nI b))] dX5_paired_23 rfl (by decide) rfl ?_
    have hb8 := pw_8 (show b < 8 by omega)
    have hb0_ := Nat.two_pow_pos b
    refine r_iconst (pc := 24) C 0 dX5_paired_24 (by decide) ?_
    refine r_istore_n (pc := 25) C [(3, .int 0), (2, .int (nI (2 ^ b))), (0, .ref (h 0)), (1, .int (nI b))] dX5_paired_25 rfl (by decide) rfl ?_
    refine r_pick (lv' := [(0, .ref (h 0)), (1, .int (nI b)), (2, .int (nI (2 ^ b))), (3, .int 0)]) [2, 3, 1, 0] rfl ?_
    refine r_blk (blk' := wX cs h (su σ 12 (hpO (σ 0) (hpL (σ 0) (σ 12) b) b 0))) (rfl) ?_
    refine r_loop (blkf := fun o => wX cs h (su σ 12 (hpO (σ 0) (hpL (σ 0) (σ 12) b) b o))) (lvf := fun o => [(0, .ref (h 0)), (1, .int (nI b)), (2, .int (nI (2 ^ b))), (3, .int (nI o))]) (fun o => True) (2 ^ b) 0 (by omega) (trivial) (fun o h_o _ ih_26 => ?_)
    show VX p l e _ s m args below meth c _ D A 4 pre (wX cs h (su σ 12 (hpO (σ 0) (hpL (σ 0) (σ 12) b) b o))) post 26 [(0, .ref (h 0)), (1, .int (nI b)), (2, .int (nI (2 ^ b))), (3, .int (nI o))] []
    refine r_iload_n (pc := 26) C 3 dX5_paired_26 rfl rfl ?_
    refine r_iload_n (pc := 27) C 2 dX5_paired_27 rfl rfl ?_
    refine r_icmp_ge (pc := 28) C 51 dX5_paired_28 (by decide) (fun c_2 => ?_) (fun c_2 => ?_)
    · skip
      have c_2 := nIc_ge_t (a := o) (b := (2 ^ b)) (by omega) (by omega) c_2
      obtain rfl : o = 2 ^ b := by omega
      refine r_iinc (pc := 51) C (nI (b + 1)) 1 [(1, .int (nI (b + 1))), (0, .ref (h 0)), (2, .int (nI (2 ^ b))), (3, .int (nI (2 ^ b)))] dX5_paired_51 rfl (nI_1 _) (by decide) rfl ?_
      refine r_goto (pc := 54) C 9 dX5_paired_54 (by decide) ?_
      refine r_pick (lv' := [(0, .ref (h 0)), (1, .int (nI (b + 1)))]) [1, 0] rfl ?_
      refine r_blk (blk' := wX cs h (su σ 12 (hpL (σ 0) (σ 12) (b + 1)))) (rfl) ?_
      exact ih_9 (by omega) (trivial)
    · skip
      have c_2 := nIc_ge_f (a := o) (b := (2 ^ b)) (by omega) (by omega) c_2
      refine r_aload_n (pc := 31) C 0 dX5_paired_31 rfl rfl ?_
      refine xg_worthOfSet (pc := 32) C fl_RX5_53 dX5_paired_32 ?_
      refine r_iload_n (pc := 35) C 3 dX5_paired_35 rfl rfl ?_
      refine r_iload_n (pc := 36) C 2 dX5_paired_36 rfl rfl ?_
      refine r_ior (pc := 37) C dX5_paired_37 ?_
      refine r_eqi (y := nI (o + 2 ^ b)) ((nI_or _ _).trans (by rw [or_pow ‹_›])) ?_
      refine r_aload_n (pc := 38) C 0 dX5_paired_38 rfl rfl ?_
      refine r_iload_n (pc := 39) C 1 dX5_paired_39 rfl rfl ?_
      refine r_iload_n (pc := 40) C 3 dX5_paired_40 rfl rfl ?_
      refine rc_Vi (pc := 41) C (t_X5_worthWithLast' l ad D cs h (su σ 12 (hpO (σ 0) (hpL (σ 0) (σ 12) b) b o)) pre post (σ 0) ((su_nn (by decide))) (hpO (σ 0) (hpL (σ 0) (σ 12) b) b o) (su_at) n b o hN hn hR (by omega) (by omega)) mv_X5_worthWithLast ml_RX5_187 rfl ⟨Nat.le_of_ble_eq_true rfl, Nat.le_of_ble_eq_true rfl⟩ ⟨rfl, rfl⟩ (q0 := 0) rfl rfl rfl rfl rfl rfl (Nat.le_of_ble_eq_true rfl) dX5_paired_41 ?_
      refine xs_worth (pc := 44) C (o + 2 ^ b) (rfl) (by omega) dX5_paired_44 (hpO (σ 0) (hpL (σ 0) (σ 12) b) b o) (su_at) ?_
      refine r_blk (blk' := wX cs h (su σ 12 (upd (hpO (σ 0) (hpL (σ 0) (σ 12) b) b o) (o + 2 ^ b) (hwQ (σ 0) (hpO (σ 0) (hpL (σ 0) (σ 12) b) b o) b o b)))) (congrArg (wX cs h) (by rw [su_su])) ?_
      refine r_iinc (pc := 45) C (nI (o + 1)) 3 [(3, .int (nI (o + 1))), (0, .ref (h 0)), (1, .int (nI b)), (2, .int (nI (2 ^ b)))] dX5_paired_45 rfl (nI_1 _) (by decide) rfl ?_
      refine r_goto (pc := 48) C 26 dX5_paired_48 (by decide) ?_
      refine r_pick (lv' := [(0, .ref (h 0)), (1, .int (nI b)), (2, .int (nI (2 ^ b))), (3, .int (nI (o + 1)))]) [1, 2, 3, 0] rfl ?_
      refine r_blk (blk' := wX cs h (su σ 12 (hpO (σ 0) (hpL (σ 0) (σ 12) b) b (o + 1)))) (rfl) ?_
      exact ih_26 (by omega) (trivial)
theorem t_X5_paired' (l : Launch) (ad : Nat → Nat) (D : va_G) (cs : Nat → ClassId) (h : Nat → Nat) (σ : Nat → Nat → Int32) (pre post : va_W) (f0_ : Nat → Int32) (e0_ : σ 0 = f0_) (f12_ : Nat → Int32) (e12_ : σ 12 = f12_) (n : Nat) (hN : f0_ 0 = nI n) (hn : n ≤ 8) (hR : rgM n f0_) : CTi l yX5_paired cX5_paired 4 .int ({ frames := 5, cells := 0, slots := 0, locals := 115 }) ad D (tysW cs) (pre ++ (wX cs h σ ++ post)) [.ref (h 0)] (hpL f0_ (f12_) n (2 ^ n - 1)) (pre ++ (wX cs h (su σ 12 (hpL f0_ (f12_) n)) ++ post)) := by
  subst e0_; subst e12_
  exact t_X5_paired l ad D cs h σ pre post n hN hn hR
