theorem dX5_fits_0 : decode cX5_fits 0 = .ok (.iload_n 1, 1) := by decide +kernel
theorem dX5_fits_1 : decode cX5_fits 1 = .ok (.invokestatic 190, 3) := by decide +kernel
theorem dX5_fits_4 : decode cX5_fits 4 = .ok (.ifCond .eq 23, 3) := by decide +kernel
theorem dX5_fits_7 : decode cX5_fits 7 = .ok (.aload_n 0, 1) := by decide +kernel
theorem dX5_fits_8 : decode cX5_fits 8 = .ok (.getfield 10, 3) := by decide +kernel
theorem dX5_fits_11 : decode cX5_fits 11 = .ok (.iload_n 2, 1) := by decide +kernel
theorem dX5_fits_12 : decode cX5_fits 12 = .ok (.invokevirtual 116, 3) := by decide +kernel
theorem dX5_fits_15 : decode cX5_fits 15 = .ok (.ifCond .eq 12, 3) := by decide +kernel
theorem dX5_fits_18 : decode cX5_fits 18 = .ok (.iload_n 3, 1) := by decide +kernel
theorem dX5_fits_19 : decode cX5_fits 19 = .ok (.iconst 0, 1) := by decide +kernel
theorem dX5_fits_20 : decode cX5_fits 20 = .ok (.iconst 1, 1) := by decide +kernel
theorem dX5_fits_21 : decode cX5_fits 21 = .ok (.invokestatic 59, 3) := by decide +kernel
theorem dX5_fits_24 : decode cX5_fits 24 = .ok (.ifCond .ne 5, 3) := by decide +kernel
theorem dX5_fits_27 : decode cX5_fits 27 = .ok (.iconst (-1), 1) := by decide +kernel
theorem dX5_fits_28 : decode cX5_fits 28 = .ok (.ireturn, 1) := by decide +kernel
theorem dX5_fits_29 : decode cX5_fits 29 = .ok (.aload_n 0, 1) := by decide +kernel
theorem dX5_fits_30 : decode cX5_fits 30 = .ok (.getfield 36, 3) := by decide +kernel
theorem dX5_fits_33 : decode cX5_fits 33 = .ok (.iload_n 1, 1) := by decide +kernel
theorem dX5_fits_34 : decode cX5_fits 34 = .ok (.aaload, 1) := by decide +kernel
theorem dX5_fits_35 : decode cX5_fits 35 = .ok (.getfield 193, 3) := by decide +kernel
theorem dX5_fits_38 : decode cX5_fits 38 = .ok (.iconst (-1), 1) := by decide +kernel
theorem dX5_fits_39 : decode cX5_fits 39 = .ok (.if_icmp .ne 6, 3) := by decide +kernel
theorem dX5_fits_42 : decode cX5_fits 42 = .ok (.bipush (-11), 2) := by decide +kernel
theorem dX5_fits_44 : decode cX5_fits 44 = .ok (.ireturn, 1) := by decide +kernel
theorem dX5_fits_45 : decode cX5_fits 45 = .ok (.iconst 0, 1) := by decide +kernel
theorem dX5_fits_46 : decode cX5_fits 46 = .ok (.istore 4, 2) := by decide +kernel
theorem dX5_fits_48 : decode cX5_fits 48 = .ok (.bipush (-3), 2) := by decide +kernel
theorem dX5_fits_50 : decode cX5_fits 50 = .ok (.istore 5, 2) := by decide +kernel
theorem dX5_fits_52 : decode cX5_fits 52 = .ok (.bipush 99, 2) := by decide +kernel
theorem dX5_fits_54 : decode cX5_fits 54 = .ok (.istore 6, 2) := by decide +kernel
theorem dX5_fits_56 : decode cX5_fits 56 = .ok (.iload 6, 2) := by decide +kernel
theorem dX5_fits_58 : decode cX5_fits 58 = .ok (.ifCond .lt 32, 3) := by decide +kernel
theorem dX5_fits_61 : decode cX5_fits 61 = .ok (.aload_n 0, 1) := by decide +kernel
theorem dX5_fits_62 : decode cX5_fits 62 = .ok (.aload_n 0, 1) := by decide +kernel
theorem dX5_fits_63 : decode cX5_fits 63 = .ok (.getfield 36, 3) := by decide +kernel
theorem dX5_fits_66 : decode cX5_fits 66 = .ok (.iload_n 1, 1) := by decide +kernel
theorem dX5_fits_67 : decode cX5_fits 67 = .ok (.aaload, 1) := by decide +kernel
theorem dX5_fits_68 : decode cX5_fits 68 = .ok (.iload_n 2, 1) := by decide +kernel
theorem dX5_fits_69 : decode cX5_fits 69 = .ok (.iload 6, 2) := by decide +kernel
theorem dX5_fits_71 : decode cX5_fits 71 = .ok (.invokevirtual 196, 3) := by decide +kernel
theorem dX5_fits_74 : decode cX5_fits 74 = .ok (.ifCond .eq 10, 3) := by decide +kernel
theorem dX5_fits_77 : decode cX5_fits 77 = .ok (.iinc 4 1, 3) := by decide +kernel
theorem dX5_fits_80 : decode cX5_fits 80 = .ok (.iload 6, 2) := by decide +kernel
theorem dX5_fits_82 : decode cX5_fits 82 = .ok (.istore 5, 2) := by decide +kernel
theorem dX5_fits_84 : decode cX5_fits 84 = .ok (.iinc 6 (-1), 3) := by decide +kernel
theorem dX5_fits_87 : decode cX5_fits 87 = .ok (.goto (-31), 3) := by decide +kernel
theorem dX5_fits_90 : decode cX5_fits 90 = .ok (.iload_n 3, 1) := by decide +kernel
theorem dX5_fits_91 : decode cX5_fits 91 = .ok (.ifCond .ne 8, 3) := by decide +kernel
theorem dX5_fits_94 : decode cX5_fits 94 = .ok (.iload 4, 2) := by decide +kernel
theorem dX5_fits_96 : decode cX5_fits 96 = .ok (.goto 5, 3) := by decide +kernel
theorem dX5_fits_99 : decode cX5_fits 99 = .ok (.iload 5, 2) := by decide +kernel
theorem dX5_fits_101 : decode cX5_fits 101 = .ok (.ireturn, 1) := by decide +kernel
set_option maxHeartbeats 400000 in
set_option maxRecDepth 20000 in
theorem t_X5_fits (l : Launch) (ad : Nat → Nat) (D : va_G) (cs : Nat → ClassId) (h : Nat → Nat) (σ : Nat → Nat → Int32) (pre post : va_W) (n : Nat) (g o w : Int32) (hN : σ 0 0 = nI n) (hn : n ≤ 8) (hR : rgM n (σ 0)) (hz : ∀ t : Nat, t < 4 → ∃ z : Nat, z ≤ 40 ∧ σ 16 t = nI z) (hso : ∀ t : Nat, t < 4 → -1 ≤ (σ 15 t).toInt) : CTi l yX5_fits cX5_fits 7 .int ({ frames := 6, cells := 0, slots := 0, locals := 138 }) ad D (tysW cs) (pre ++ (wX cs h σ ++ post)) [.ref (h 0), .int g, .int o, .int w] (gateI (inB g 0 3 && (oneB n o && inB w 0 1)) (if 0 ≤ σ 15 g.toNatClampNeg then (if w = 0 then ftM (fun v_ => tdB (tdP n (upd (σ 0) (8 + 5 * o.toNatClampNeg + 3) (nI v_)) (σ 17) o.toNatClampNeg g.toNatClampNeg) 0 (σ 16 g.toNatClampNeg).toNatClampNeg) 100 else ftL (fun v_ => tdB (tdP n (upd (σ 0) (8 + 5 * o.toNatClampNeg + 3) (nI v_)) (σ 17) o.toNatClampNeg g.toNatClampNeg) 0 (σ 16 g.toNatClampNeg).toNatClampNeg) 100) else -11) (-1)) (pre ++ (wX cs h (su σ 2 (gateF ((inB g 0 3 && (oneB n o && inB w 0 1)) && decide (0 ≤ σ 15 g.toNatClampNeg)) ((itT (fun k_ => daysF n (upd (σ 0) (8 + 5 * o.toNatClampNeg + 3) (nI (99 - k_))) (tdI (tdP n (upd (σ 0) (8 + 5 * o.toNatClampNeg + 3) (nI (99 - k_))) (σ 17) o.toNatClampNeg g.toNatClampNeg) 0 (σ 16 g.toNatClampNeg).toNatClampNeg)) (σ 2)) 100) (σ 2))) ++ post)) := by
  refine CTi.of (lv0 := [(0, .ref (h 0)), (1, .int g), (2, .int o), (3, .int w)]) (by decide) rfl (Nat.le_of_ble_eq_true rfl) (fun p e s m args below meth c A C hr hlk => ?_)
  have C : Cx p s m args c cX5_fits 7 RX5 ad D (tysW cs) A := C
  refine r_iload_n (pc := 0) C 1 dX5_fits_0 rfl rfl ?_
  refine rc_Si (pc := 1) C (t_X5_isPlace l ad D (tysW cs) (wX cs h σ) pre post  g ) ms_X5_isPlace ml_RX5_190 rfl ⟨Nat.le_of_ble_eq_true rfl, Nat.le_of_ble_eq_true rfl⟩ ⟨rfl, rfl⟩ rfl rfl rfl (Nat.le_of_ble_eq_true rfl) dX5_fits_1 ?_
  refine r_if_eq (pc := 4) C 27 dX5_fits_4 (by decide) (fun c_1 => ?_) (fun c_1 => ?_)
  · skip
    have c_1 := bI_0.mp c_1
    refine r_iconst (pc := 27) C (-1) dX5_fits_27 (by decide) ?_
    exact r_iret (pc := 28) C hr hlk dX5_fits_28 rfl (by first | rfl | (simp [gateI, gateF, *]; done) | simp_all [gateI, gateF]) (by rw [show (gateF ((inB g 0 3 && (oneB n o && inB w 0 1)) && decide (0 ≤ σ 15 g.toNatClampNeg)) ((itT (fun k_ => daysF n (upd (σ 0) (8 + 5 * o.toNatClampNeg + 3) (nI (99 - k_))) (tdI (tdP n (upd (σ 0) (8 + 5 * o.toNatClampNeg + 3) (nI (99 - k_))) (σ 17) o.toNatClampNeg g.toNatClampNeg) 0 (σ 16 g.toNatClampNeg).toNatClampNeg)) (σ 2)) 100) (σ 2) : Nat → Int32) = σ 2 from (by first | rfl | (simp [gateI, gateF, *]; done) | simp_all [gateI, gateF])] <;> rfl)
  · skip
    have c_1 := bI_n.mp c_1
    obtain ⟨f, l_f, h_f, rfl⟩ := rng_nat 0 3 (by decide) (by decide) c_1
    have e_f : (nI f).toNatClampNeg = f := nI_clamp (by omega)
    refine r_aload_n (pc := 7) C 0 dX5_fits_7 rfl rfl ?_
    refine xg_now (pc := 8) C fl_RX5_10 dX5_fits_8 ?_
    refine r_iload_n (pc := 11) C 2 dX5_fits_11 rfl rfl ?_
    refine rc_Vi (pc := 12) C (t_X0_exists' l ad D cs (fun j => h (1 + j)) (fun _ => σ 0) (pre ++ xA_0 cs h σ) (xC_0 cs h σ ++ post) (σ 0) rfl n o hN hn) mv_X0_exists ml_RX5_116 rfl ⟨Nat.le_of_ble_eq_true rfl, Nat.le_of_ble_eq_true rfl⟩ ⟨rfl, rfl⟩ (q0 := 0) rfl rfl rfl fx_0 fx_0.symm rfl (Nat.le_of_ble_eq_true rfl) dX5_fits_12 ?_
    refine r_if_eq (pc := 15) C 27 dX5_fits_15 (by decide) (fun c_2 => ?_) (fun c_2 => ?_)
    · skip
      have c_2 := bI_0.mp c_2
      refine r_iconst (pc := 27) C (-1) dX5_fits_27 (by decide) ?_
      exact r_iret (pc := 28) C hr hlk dX5_fits_28 rfl (by first | rfl | (simp [gateI, gateF, *]; done) | simp_all [gateI, gateF]) (by rw [show (gateF ((inB (nI f) 0 3 && (oneB n o && inB w 0 1)) && decide (0 ≤ σ 15 (nI f).toNatClampNeg)) ((itT (fun k_ => daysF n (upd (σ 0) (8 + 5 * o.toNatClampNeg + 3) (nI (99 - k_))) (tdI (tdP n (upd (σ 0) (8 + 5 * o.toNatClampNeg + 3) (nI (99 - k_))) (σ 17) o.toNatClampNeg (nI f).toNatClampNeg) 0 (σ 16 (nI f).toNatClampNeg).toNatClampNeg)) (σ 2)) 100) (σ 2) : Nat → Int32) = σ 2 from (by first | rfl | (simp [gateI, gateF, *]; done) | simp_all [gateI, gateF])] <;> rfl)
    · skip
      have c_2 := bI_n.mp c_2
      obtain ⟨j, h_j, rfl⟩ := one_nat (by omega) c_2
      have e_j : (nI j).toNatClampNeg = j := nI_clamp (by omega)
      refine r_iload_n (pc := 18) C 3 dX5_fits_18 rfl rfl ?_
      refine r_iconst (pc := 19) C 0 dX5_fits_19 (by decide) ?_
      refine r_iconst (pc := 20) C 1 dX5_fits_20 (by decide) ?_
      refine rc_Si (pc := 21) C (t_X5_isWithin l ad D (tysW cs) (wX cs h σ) pre post  w (0 : Int32) (1 : Int32) ) ms_X5_isWithin ml_RX5_59 rfl ⟨Nat.le_of_ble_eq_true rfl, Nat.le_of_ble_eq_true rfl⟩ ⟨rfl, rfl⟩ rfl rfl rfl (Nat.le_of_ble_eq_true rfl) dX5_fits_21 ?_
      refine r_if_ne (pc := 24) C 29 dX5_fits_24 (by decide) (fun c_3 => ?_) (fun c_3 => ?_)
      · skip
        have c_3 := bI_n.mp c_3
        refine r_aload_n (pc := 29) C 0 dX5_fits_29 rfl rfl ?_
        refine xg_sheets (pc := 30) C fl_RX5_36 dX5_fits_30 ?_
        refine r_iload_n (pc := 33) C 1 dX5_fits_33 rfl rfl ?_
        refine xa_sheets (pc := 34) C f (rfl) (by omega) dX5_fits_34 ?_
        refine xg_s_sort (by omega) (pc := 35) C fl_RX5_193 dX5_fits_35 (σ 15 f) rfl ?_
        refine r_iconst (pc := 38) C (-1) dX5_fits_38 (by decide) ?_
        refine r_icmp_ne (pc := 39) C 45 dX5_fits_39 (by decide) (fun c_4 => ?_) (fun c_4 => ?_)
        · skip
          have hs_ := so_p (hso f (by omega)) c_4
          obtain ⟨z, hz1, hz2⟩ := hz f (by omega)
          have e_z : (nI z).toNatClampNeg = z := nI_clamp (by omega)
          refine r_iconst (pc := 45) C 0 dX5_fits_45 (by decide) ?_
          refine r_istore (pc := 46) C [(4, .int 0), (0, .ref (h 0)), (1, .int (nI f)), (2, .int (nI j)), (3, .int w)] dX5_fits_46 (by decide) rfl ?_
          refine r_bipush (pc := 48) C (-3) dX5_fits_48 (by decide) ?_
          refine r_istore (pc := 50) C [(5, .int (-3)), (4, .int 0), (0, .ref (h 0)), (1, .int (nI f)), (2, .int (nI j)), (3, .int w)] dX5_fits_50 (by decide) rfl ?_
          refine r_bipush (pc := 52) C 99 dX5_fits_52 (by decide) ?_
          refine r_istore (pc := 54) C [(6, .int 99), (5, .int (-3)), (4, .int 0), (0, .ref (h 0)), (1, .int (nI f)), (2, .int (nI j)), (3, .int w)] dX5_fits_54 (by decide) rfl ?_
          refine r_pick (lv' := [(0, .ref (h 0)), (1, .int (nI f)), (2, .int (nI j)), (3, .int w), (4, .int 0), (5, .int (-3)), (6, .int 99)]) [3, 4, 5, 6, 2, 1, 0] rfl ?_
          refine r_lv (lv' := [(0, .ref (h 0)), (1, .int (nI f)), (2, .int (nI j)), (3, .int w), (4, .int (ftM (fun v_ => tdB (tdP n (upd (σ 0) (8 + 5 * j + 3) (nI v_)) (σ 17) j f) 0 z) 0)), (5, .int (ftL (fun v_ => tdB (tdP n (upd (σ 0) (8 + 5 * j + 3) (nI v_)) (σ 17) j f) 0 z) 0)), (6, .int (nI (100 - 0) - 1))]) (rfl) ?_
          refine r_blk (blk' := wX cs h (su σ 2 ((itT (fun k_ => daysF n (upd (σ 0) (8 + 5 * j + 3) (nI (99 - k_))) (tdI (tdP n (upd (σ 0) (8 + 5 * j + 3) (nI (99 - k_))) (σ 17) j f) 0 z)) (σ 2)) 0))) (rfl) ?_
          refine r_loop (blkf := fun i => wX cs h (su σ 2 ((itT (fun k_ => daysF n (upd (σ 0) (8 + 5 * j + 3) (nI (99 - k_))) (tdI (tdP n (upd (σ 0) (8 + 5 * j + 3) (nI (99 - k_))) (σ 17) j f) 0 z)) (σ 2)) i))) (lvf := fun i => [(0, .ref (h 0)), (1, .int (nI f)), (2, .int (nI j)), (3, .int w), (4, .int (ftM (fun v_ => tdB (tdP n (upd (σ 0) (8 + 5 * j + 3) (nI v_)) (σ 17) j f) 0 z) i)), (5, .int (ftL (fun v_ => tdB (tdP n (upd (σ 0) (8 + 5 * j + 3) (nI v_)) (σ 17) j f) 0 z) i)), (6, .int (nI (100 - i) - 1))]) (fun i => True) 100 0 (by omega) (trivial) (fun i h_i _ ih_56 => ?_)
          show VX p l e _ s m args below meth c _ D A 7 pre (wX cs h (su σ 2 ((itT (fun k_ => daysF n (upd (σ 0) (8 + 5 * j + 3) (nI (99 - k_))) (tdI (tdP n (upd (σ 0) (8 + 5 * j + 3) (nI (99 - k_))) (σ 17) j f) 0 z)) (σ 2)) i))) post 56 [(0, .ref (h 0)), (1, .int (nI f)), (2, .int (nI j)), (3, .int w), (4, .int (ftM (fun v_ => tdB (tdP n (upd (σ 0) (8 + 5 * j + 3) (nI v_)) (σ 17) j f) 0 z) i)), (5, .int (ftL (fun v_ => tdB (tdP n (upd (σ 0) (8 + 5 * j + 3) (nI v_)) (σ 17) j f) 0 z) i)), (6, .int (nI (100 - i) - 1))] []
          refine r_iload (pc := 56) C 6 dX5_fits_56 rfl ?_
          refine r_if_lt (pc := 58) C 90 dX5_fits_58 (by decide) (fun c_5 => ?_) (fun c_5 => ?_)
          · skip
            obtain rfl : i = 100 := dn_0 h_i c_5
            refine r_iload_n (pc := 90) C 3 dX5_fits_90 rfl rfl ?_
            refine r_if_ne (pc := 91) C 99 dX5_fits_91 (by decide) (fun c_6 => ?_) (fun c_6 => ?_)
            · skip
              refine r_iload (pc := 99) C 5 dX5_fits_99 rfl ?_
              exact r_iret (pc := 101) C hr hlk dX5_fits_101 rfl (by first | rfl | (simp [gateI, gateF, *]; done) | simp_all [gateI, gateF]) (by rw [show (gateF ((inB (nI f) 0 3 && (oneB n (nI j) && inB w 0 1)) && decide (0 ≤ σ 15 (nI f).toNatClampNeg)) ((itT (fun k_ => daysF n (upd (σ 0) (8 + 5 * (nI j).toNatClampNeg + 3) (nI (99 - k_))) (tdI (tdP n (upd (σ 0) (8 + 5 * (nI j).toNatClampNeg + 3) (nI (99 - k_))) (σ 17) (nI j).toNatClampNeg (nI f).toNatClampNeg) 0 (σ 16 (nI f).toNatClampNeg).toNatClampNeg)) (σ 2)) 100) (σ 2) : Nat → Int32) = (itT (fun k_ => daysF n (upd (σ 0) (8 + 5 * j + 3) (nI (99 - k_))) (tdI (tdP n (upd (σ 0) (8 + 5 * j + 3) (nI (99 - k_))) (σ 17) j f) 0 z)) (σ 2)) 100 from (by first | rfl | (simp [gateI, gateF, *]; done) | simp_all [gateI, gateF])] <;> rfl)
            · skip
              refine r_iload (pc := 94) C 4 dX5_fits_94 rfl ?_
              refine r_goto (pc := 96) C 101 dX5_fits_96 (by decide) ?_
              exact r_iret (pc := 101) C hr hlk dX5_fits_101 rfl (by first | rfl | (simp [gateI, gateF, *]; done) | simp_all [gateI, gateF]) (by rw [show (gateF ((inB (nI f) 0 3 && (oneB n (nI j) && inB w 0 1)) && decide (0 ≤ σ 15 (nI f).toNatClampNeg)) ((itT (fun k_ => daysF n (upd (σ 0) (8 + 5 * (nI j).toNatClampNeg + 3) (nI (99 - k_))) (tdI (tdP n (upd (σ 0) (8 + 5 * (nI j).toNatClampNeg + 3) (nI (99 - k_))) (σ 17) (nI j).toNatClampNeg (nI f).toNatClampNeg) 0 (σ 16 (nI f).toNatClampNeg).toNatClampNeg)) (σ 2)) 100) (σ 2) : Nat → Int32) = (itT (fun k_ => daysF n (upd (σ 0) (8 + 5 * j + 3) (nI (99 - k_))) (tdI (tdP n (upd (σ 0) (8 + 5 * j + 3) (nI (99 - k_))) (σ 17) j f) 0 z)) (σ 2)) 100 from (by first | rfl | (simp [gateI, gateF, *]; done) | simp_all [gateI, gateF])] <;> rfl)
          · skip
            have hi_ := dn_3 h_i c_5
            refine r_lv (lv' := [(0, .ref (h 0)), (1, .int (nI f)), (2, .int (nI j)), (3, .int w), (4, .int (ftM (fun v_ => tdB (tdP n (upd (σ 0) (8 + 5 * j + 3) (nI v_)) (σ 17) j f) 0 z) i)), (5, .int (ftL (fun v_ => tdB (tdP n (upd (σ 0) (8 + 5 * j + 3) (nI v_)) (σ 17) j f) 0 z) i)), (6, .int (nI (99 - i)))]) (lvc rfl (lvc rfl (lvc rfl (lvc rfl (lvc rfl (lvc rfl (lvc (congrArg Value.int (dn_1 hi_)) rfl))))))) ?_
            refine r_aload_n (pc := 61) C 0 dX5_fits_61 rfl rfl ?_
            refine r_aload_n (pc := 62) C 0 dX5_fits_62 rfl rfl ?_
            refine xg_sheets (pc := 63) C fl_RX5_36 dX5_fits_63 ?_
            refine r_iload_n (pc := 66) C 1 dX5_fits_66 rfl rfl ?_
            refine xa_sheets (pc := 67) C f (rfl) (by omega) dX5_fits_67 ?_
            refine r_iload_n (pc := 68) C 2 dX5_fits_68 rfl rfl ?_
            refine r_iload (pc := 69) C 6 dX5_fits_69 rfl ?_
            refine rc_Vi (pc := 71) C (t_X5_isFitting' l ad D cs h (su σ 2 ((itT (fun k_ => daysF n (upd (σ 0) (8 + 5 * j + 3) (nI (99 - k_))) (tdI (tdP n (upd (σ 0) (8 + 5 * j + 3) (nI (99 - k_))) (σ 17) j f) 0 z)) (σ 2)) i)) pre post (σ 0) ((su_nn (by decide))) (σ 16) ((su_nn (by decide))) (σ 17) ((su_nn (by decide))) n f j (99 - i) z hN hn hR (by omega) h_j (by omega) hz2 hz1) mv_X5_isFitting ml_RX5_196 rfl ⟨Nat.le_of_ble_eq_true rfl, Nat.le_of_ble_eq_true rfl⟩ ⟨rfl, rfl⟩ (q0 := 0) rfl rfl rfl rfl rfl rfl (Nat.le_of_ble_eq_true rfl) dX5_fits_71 ?_
            refine r_blk (blk' := wX cs h (su σ 2 (daysF n (upd (σ 0) (8 + 5 * j + 3) (nI (99 - i))) (tdI (tdP n (upd (σ 0) (8 + 5 * j + 3) (nI (99 - i))) (σ 17) j f) 0 z)))) (congrArg (wX cs h) (by rw [su_su (k := 2)])) ?_
            refine r_if_eq (pc := 74) C 84 dX5_fits_74 (by decide) (fun c_7 => ?_) (fun c_7 => ?_)
            · skip
              have c_7 := bI_0.mp c_7
              refine r_iinc (pc := 84) C ((nI (99 - i)) + (-1)) 6 [(6, .int ((nI (99 - i)) + (-1))), (0, .ref (h 0)), (1, .int (nI f)), (2, .int (nI j)), (3, .int w), (4, .int (ftM (fun v_ => tdB (tdP n (upd (σ 0) (8 + 5 * j + 3) (nI v_)) (σ 17) j f) 0 z) i)), (5, .int (ftL (fun v_ => tdB (tdP n (upd (σ 0) (8 + 5 * j + 3) (nI v_)) (σ 17) j f) 0 z) i))] dX5_fits_84 rfl (rfl) (by decide) rfl ?_
              refine r_goto (pc := 87) C 56 dX5_fits_87 (by decide) ?_
              refine r_pick (lv' := [(0, .ref (h 0)), (1, .int (nI f)), (2, .int (nI j)), (3, .int w), (4, .int (ftM (fun v_ => tdB (tdP n (upd (σ 0) (8 + 5 * j + 3) (nI v_)) (σ 17) j f) 0 z) i)), (5, .int (ftL (fun v_ => tdB (tdP n (upd (σ 0) (8 + 5 * j + 3) (nI v_)) (σ 17) j f) 0 z) i)), (6, .int ((nI (99 - i)) + (-1)))]) [1, 2, 3, 4, 5, 6, 0] rfl ?_
              refine r_lv (lv' := [(0, .ref (h 0)), (1, .int (nI f)), (2, .int (nI j)), (3, .int w), (4, .int (ftM (fun v_ => tdB (tdP n (upd (σ 0) (8 + 5 * j + 3) (nI v_)) (σ 17) j f) 0 z) (i + 1))), (5, .int (ftL (fun v_ => tdB (tdP n (upd (σ 0) (8 + 5 * j + 3) (nI v_)) (σ 17) j f) 0 z) (i + 1))), (6, .int (nI (100 - (i + 1)) - 1))]) (lvc rfl (lvc rfl (lvc rfl (lvc rfl (lvc (congrArg Value.int (show (ftM (fun v_ => tdB (tdP n (upd (σ 0) (8 + 5 * j + 3) (nI v_)) (σ 17) j f) 0 z) i : Int32) = ftM (fun v_ => tdB (tdP n (upd (σ 0) (8 + 5 * j + 3) (nI v_)) (σ 17) j f) 0 z) (i + 1) from (by show _ = ftM (fun v_ => tdB (tdP n (upd (σ 0) (8 + 5 * j + 3) (nI v_)) (σ 17) j f) 0 z) i + (if (fun v_ => tdB (tdP n (upd (σ 0) (8 + 5 * j + 3) (nI v_)) (σ 17) j f) 0 z) (99 - i) = true then 1 else 0); rw [if_neg c_7]; simp))) (lvc (congrArg Value.int (show (ftL (fun v_ => tdB (tdP n (upd (σ 0) (8 + 5 * j + 3) (nI v_)) (σ 17) j f) 0 z) i : Int32) = ftL (fun v_ => tdB (tdP n (upd (σ 0) (8 + 5 * j + 3) (nI v_)) (σ 17) j f) 0 z) (i + 1) from (if_neg c_7).symm)) (lvc (congrArg Value.int (show ((nI (99 - i)) + (-1) : Int32) = nI (100 - (i + 1)) - 1 from dn_2 hi_)) rfl))))))) ?_
              refine r_blk (blk' := wX cs h (su σ 2 ((itT (fun k_ => daysF n (upd (σ 0) (8 + 5 * j + 3) (nI (99 - k_))) (tdI (tdP n (upd (σ 0) (8 + 5 * j + 3) (nI (99 - k_))) (σ 17) j f) 0 z)) (σ 2)) (i + 1)))) (rfl) ?_
              exact ih_56 (by omega) (trivial)
            · skip
              have c_7 := bI_n.mp c_7
              refine r_iinc (pc := 77) C ((ftM (fun v_ => tdB (tdP n (upd (σ 0) (8 + 5 * j + 3) (nI v_)) (σ 17) j f) 0 z) i) + 1) 4 [(4, .int ((ftM (fun v_ => tdB (tdP n (upd (σ 0) (8 + 5 * j + 3) (nI v_)) (σ 17) j f) 0 z) i) + 1)), (0, .ref (h 0)), (1, .int (nI f)), (2, .int (nI j)), (3, .int w), (5, .int (ftL (fun v_ => tdB (tdP n (upd (σ 0) (8 + 5 * j + 3) (nI v_)) (σ 17) j f) 0 z) i)), (6, .int (nI (99 - i)))] dX5_fits_77 rfl (rfl) (by decide) rfl ?_
              refine r_iload (pc := 80) C 6 dX5_fits_80 rfl ?_
              refine r_istore (pc := 82) C [(5, .int (nI (99 - i))), (4, .int ((ftM (fun v_ => tdB (tdP n (upd (σ 0) (8 + 5 * j + 3) (nI v_)) (σ 17) j f) 0 z) i) + 1)), (0, .ref (h 0)), (1, .int (nI f)), (2, .int (nI j)), (3, .int w), (6, .int (nI (99 - i)))] dX5_fits_82 (by decide) rfl ?_
              refine r_iinc (pc := 84) C ((nI (99 - i)) + (-1)) 6 [(6, .int ((nI (99 - i)) + (-1))), (5, .int (nI (99 - i))), (4, .int ((ftM (fun v_ => tdB (tdP n (upd (σ 0) (8 + 5 * j + 3) (nI v_)) (σ 17) j f) 0 z) i) + 1)), (0, .ref (h 0)), (1, .int (nI f)), (2, .int (nI j)), (3, .int w)] dX5_fits_84 rfl (rfl) (by decide) rfl ?_
              refine r_goto (pc := 87) C 56 dX5_fits_87 (by decide) ?_
              refine r_pick (lv' := [(0, .ref (h 0)), (1, .int (nI f)), (2, .int (nI j)), (3, .int w), (4, .int ((ftM (fun v_ => tdB (tdP n (upd (σ 0) (8 + 5 * j + 3) (nI v_)) (σ 17) j f) 0 z) i) + 1)), (5, .int (nI (99 - i))), (6, .int ((nI (99 - i)) + (-1)))]) [3, 4, 5, 6, 2, 1, 0] rfl ?_
              refine r_lv (lv' := [(0, .ref (h 0)), (1, .int (nI f)), (2, .int (nI j)), (3, .int w), (4, .int (ftM (fun v_ => tdB (tdP n (upd (σ 0) (8 + 5 * j + 3) (nI v_)) (σ 17) j f) 0 z) (i + 1))), (5, .int (ftL (fun v_ => tdB (tdP n (upd (σ 0) (8 + 5 * j + 3) (nI v_)) (σ 17) j f) 0 z) (i + 1))), (6, .int (nI (100 - (i + 1)) - 1))]) (lvc rfl (lvc rfl (lvc rfl (lvc rfl (lvc (congrArg Value.int (show ((ftM (fun v_ => tdB (tdP n (upd (σ 0) (8 + 5 * j + 3) (nI v_)) (σ 17) j f) 0 z) i) + 1 : Int32) = ftM (fun v_ => tdB (tdP n (upd (σ 0) (8 + 5 * j + 3) (nI v_)) (σ 17) j f) 0 z) (i + 1) from (by show _ = ftM (fun v_ => tdB (tdP n (upd (σ 0) (8 + 5 * j + 3) (nI v_)) (σ 17) j f) 0 z) i + (if (fun v_ => tdB (tdP n (upd (σ 0) (8 + 5 * j + 3) (nI v_)) (σ 17) j f) 0 z) (99 - i) = true then 1 else 0); rw [if_pos c_7]))) (lvc (congrArg Value.int (show (nI (99 - i) : Int32) = ftL (fun v_ => tdB (tdP n (upd (σ 0) (8 + 5 * j + 3) (nI v_)) (σ 17) j f) 0 z) (i + 1) from (if_pos c_7).symm)) (lvc (congrArg Value.int (show ((nI (99 - i)) + (-1) : Int32) = nI (100 - (i + 1)) - 1 from dn_2 hi_)) rfl))))))) ?_
              refine r_blk (blk' := wX cs h (su σ 2 ((itT (fun k_ => daysF n (upd (σ 0) (8 + 5 * j + 3) (nI (99 - k_))) (tdI (tdP n (upd (σ 0) (8 + 5 * j + 3) (nI (99 - k_))) (σ 17) j f) 0 z)) (σ 2)) (i + 1)))) (rfl) ?_
              exact ih_56 (by omega) (trivial)
        · skip
          have hs_ := so_m c_4
          refine r_bipush (pc := 42) C (-11) dX5_fits_42 (by decide) ?_
          exact r_iret (pc := 44) C hr hlk dX5_fits_44 rfl (by first | rfl | (simp [gateI, gateF, *]; done) | simp_all [gateI, gateF]) (by rw [show (gateF ((inB (nI f) 0 3 && (oneB n (nI j) && inB w 0 1)) && decide (0 ≤ σ 15 (nI f).toNatClampNeg)) ((itT (fun k_ => daysF n (upd (σ 0) (8 + 5 * (nI j).toNatClampNeg + 3) (nI (99 - k_))) (tdI (tdP n (upd (σ 0) (8 + 5 * (nI j).toNatClampNeg + 3) (nI (99 - k_))) (σ 17) (nI j).toNatClampNeg (nI f).toNatClampNeg) 0 (σ 16 (nI f).toNatClampNeg).toNatClampNeg)) (σ 2)) 100) (σ 2) : Nat → Int32) = σ 2 from (by first | rfl | (simp [gateI, gateF, *]; done) | simp_all [gateI, gateF])] <;> rfl)
      · skip
        have c_3 := bI_0.mp c_3
        refine r_iconst (pc := 27) C (-1) dX5_fits_27 (by decide) ?_
        exact r_iret (pc := 28) C hr hlk dX5_fits_28 rfl (by first | rfl | (simp [gateI, gateF, *]; done) | simp_all [gateI, gateF]) (by rw [show (gateF ((inB (nI f) 0 3 && (oneB n (nI j) && inB w 0 1)) && decide (0 ≤ σ 15 (nI f).toNatClampNeg)) ((itT (fun k_ => daysF n (upd (σ 0) (8 + 5 * (nI j).toNatClampNeg + 3) (nI (99 - k_))) (tdI (tdP n (upd (σ 0) (8 + 5 * (nI j).toNatClampNeg + 3) (nI (99 - k_))) (σ 17) (nI j).toNatClampNeg (nI f).toNatClampNeg) 0 (σ 16 (nI f).toNatClampNeg).toNatClampNeg)) (σ 2)) 100) (σ 2) : Nat → Int32) = σ 2 from (by first | rfl | (simp [gateI, gateF, *]; done) | simp_all [gateI, gateF])] <;> rfl)
theorem t_X5_fits' (l : Launch) (ad : Nat → Nat) (D : va_G) (cs : Nat → ClassId) (h : Nat → Nat) (σ : Nat → Nat → Int32) (pre post : va_W) (f0_ : Nat → Int32) (e0_ : σ 0 = f0_) (f2_ : Nat → Int32) (e2_ : σ 2 = f2_) (f15_ : Nat → Int32) (e15_ : σ 15 = f15_) (f16_ : Nat → Int32) (e16_ : σ 16 = f16_) (f17_ : Nat → Int32) (e17_ : σ 17 = f17_) (n : Nat) (g o w : Int32) (hN : f0_ 0 = nI n) (hn : n ≤ 8) (hR : rgM n f0_) (hz : ∀ t : Nat, t < 4 → ∃ z : Nat, z ≤ 40 ∧ f16_ t = nI z) (hso : ∀ t : Nat, t < 4 → -1 ≤ (f15_ t).toInt) : CTi l yX5_fits cX5_fits 7 .int ({ frames := 6, cells := 0, slots := 0, locals := 138 }) ad D (tysW cs) (pre ++ (wX cs h σ ++ post)) [.ref (h 0), .int g, .int o, .int w] (gateI (inB g 0 3 && (oneB n o && inB w 0 1)) (if 0 ≤ f15_ g.toNatClampNeg then (if w = 0 then ftM (fun v_ => tdB (tdP n (upd f0_ (8 + 5 * o.toNatClampNeg + 3) (nI v_)) (f17_) o.toNatClampNeg g.toNatClampNeg) 0 (f16_ g.toNatClampNeg).toNatClampNeg) 100 else ftL (fun v_ => tdB (tdP n (upd f0_ (8 + 5 * o.toNatClampNeg + 3) (nI v_)) (f17_) o.toNatClampNeg g.toNatClampNeg) 0 (f16_ g.toNatClampNeg).toNatClampNeg) 100) else -11) (-1)) (pre ++ (wX cs h (su σ 2 (gateF ((inB g 0 3 && (oneB n o && inB w 0 1)) && decide (0 ≤ f15_ g.toNatClampNeg)) ((itT (fun k_ => daysF n (upd f0_ (8 + 5 * o.toNatClampNeg + 3) (nI (99 - k_))) (tdI (tdP n (upd f0_ (8 + 5 * o.toNatClampNeg + 3) (nI (99 - k_))) (f17_) o.toNatClampNeg g.toNatClampNeg) 0 (f16_ g.toNatClampNeg).toNatClampNeg)) (f2_)) 100) (f2_))) ++ post)) := by
  subst e0_; subst e2_; subst e15_; subst e16_; subst e17_
  exact t_X5_fits l ad D cs h σ pre post n g o w hN hn hR hz hso
theorem dX1_become_0 : decode cX1_become 0 = .ok (.aload_n 0, 1) := by decide +kernel
theorem dX1_become_1 : decode cX1_become 1 = .ok (.iload_n 1, 1) := by decide +kernel
theorem dX1_become_2 : decode cX1_become 2 = .ok (.putfield 15, 3) := by decide +kernel
theorem dX1_become_5 : decode cX1_become 5 = .ok (.aload_n 0, 1) := by decide +kernel
theorem dX1_become_6 : decode cX1_become 6 = .ok (.iload_n 2, 1) := by decide +kernel
theorem dX1_become_7 : decode cX1_become 7 = .ok (.putfield 19, 3) := by decide +kernel
theorem dX1_become_10 : decode cX1_become 10 = .ok (.iconst 0, 1) := by decide +kernel
theorem dX1_become_11 : decode cX1_become 11 = .ok (.istore_n 3, 1) := by decide +kernel
theorem dX1_become_12 : decode cX1_become 12 = .ok (.iload_n 3, 1) := by decide +kernel
theorem dX1_become_13 : decode cX1_become 13 = .ok (.bipush 40, 2) := by decide +kernel
theorem dX1_become_15 : decode cX1_become 15 = .ok (.if_icmp .ge 16, 3) := by decide +kernel
theorem dX1_become_18 : decode cX1_become 18 = .ok (.aload_n 0, 1) := by decide +kernel
theorem dX1_become_19 : decode cX1_become 19 = .ok (.getfield 9, 3) := by decide +kernel
theorem dX1_become_22 : decode cX1_become 22 = .ok (.iload_n 3, 1) := by decide +kernel
theorem dX1_become_23 : decode cX1_become 23 = .ok (.lconst 0, 1) := by decide +kernel
theorem dX1_become_24 : decode cX1_become 24 = .ok (.lastore, 1) := by decide +kernel
theorem dX1_become_25 : decode cX1_become 25 = .ok (.iinc 3 1, 3) := by decide +kernel
theorem dX1_become_28 : decode cX1_become 28 = .ok (.goto (-16), 3) := by decide +kernel
theorem dX1_become_31 : decode cX1_become 31 = .ok (.return_, 1) := by decide +kernel
set_option maxHeartbeats 400000 in
set_option maxRecDepth 20000 in
theorem t_X1_become (l : Launch) (ad : Nat → Nat) (D : va_G) (cs : Nat → ClassId) (h : Nat → Nat) (σ : Nat → Nat → Int32) (pre post : va_W) (w_ : Nat) (x k : Int32) (hw_ : w_ < 4) : CTv l yX1_become cX1_become 4 ({ frames := 0, cells := 0, slots := 0, locals := 0 }) ad D (tysW cs) (pre ++ (wX cs h σ ++ post)) [.ref (h (47 + w_)), .int x, .int k] (pre ++ (wX cs h (su (su (su σ 15 (upd (σ 15) w_ x)) 16 (upd (σ 16) w_ k)) 17 (zrN (σ 17) w_ 40)) ++ post)) := by
  refine CTv.of (lv0 := [(0, .ref (h (47 + w_))), (1, .int x), (2, .int k)]) (by decide) rfl (Nat.le_of_ble_eq_true rfl) (fun p e s m args below meth c A C hr hlk => ?_)
  have C : Cx p s m args c cX1_become 4 RX1 ad D (tysW cs) A := C
  refine r_aload_n (pc := 0) C 0 dX1_become_0 rfl rfl ?_
  refine r_iload_n (pc := 1) C 1 dX1_become_1 rfl rfl ?_
  refine xp_s_sort (by omega) (pc := 2) C fl_RX1_15 dX1_become_2 (σ 15) (rfl) ?_
  refine r_aload_n (pc := 5) C 0 dX1_become_5 rfl rfl ?_
  refine r_iload_n (pc := 6) C 2 dX1_become_6 rfl rfl ?_
  refine xp_s_size (by omega) (pc := 7) C fl_RX1_19 dX1_become_7 (σ 16) ((su_nn (by decide))) ?_
  refine r_iconst (pc := 10) C 0 dX1_become_10 (by decide) ?_
  refine r_istore_n (pc := 11) C [(3, .int 0), (0, .ref (h (47 + w_))), (1, .int x), (2, .int k)] dX1_become_11 rfl (by decide) rfl ?_
  refine r_pick (lv' := [(0, .ref (h (47 + w_))), (1, .int x), (2, .int k), (3, .int 0)]) [1, 2, 3, 0] rfl ?_
  refine r_blk (blk' := wX cs h (su (su (su σ 15 (upd (σ 15) w_ x)) 16 (upd (σ 16) w_ k)) 17 (zrN (σ 17) w_ 0))) (rfl) ?_
  refine r_loop (blkf := fun i => wX cs h (su (su (su σ 15 (upd (σ 15) w_ x)) 16 (upd (σ 16) w_ k)) 17 (zrN (σ 17) w_ i))) (lvf := fun i => [(0, .ref (h (47 + w_))), (1, .int x), (2, .int k), (3, .int (nI i))]) (fun i => True) 40 0 (by omega) (trivial) (fun i h_i _ ih_12 => ?_)
  show VX p l e _ s m args below meth c _ D A 4 pre (wX cs h (su (su (su σ 15 (upd (σ 15) w_ x)) 16 (upd (σ 16) w_ k)) 17 (zrN (σ 17) w_ i))) post 12 [(0, .ref (h (47 + w_))), (1, .int x), (2, .int k), (3, .int (nI i))] []
  refine r_iload_n (pc := 12) C 3 dX1_become_12 rfl rfl ?_
  refine r_bipush (pc := 13) C 40 dX1_become_13 (by decide) ?_
  refine r_icmp_ge (pc := 15) C 31 dX1_become_15 (by decide) (fun c_1 => ?_) (fun c_1 => ?_)
  · skip
    have c_1 := nIc_ge_t (a := i) (b := 40) (by omega) (by omega) c_1
    obtain rfl : i = 40 := by omega
    exact r_vret (pc := 31) C hr hlk dX1_become_31 rfl
  · skip
    have c_1 := nIc_ge_f (a := i) (b := 40) (by omega) (by omega) c_1
    refine r_aload_n (pc := 18) C 0 dX1_become_18 rfl rfl ?_
    refine xg_s_items (by omega) (pc := 19) C fl_RX1_9 dX1_become_19 ?_
    refine r_iload_n (pc := 22) C 3 dX1_become_22 rfl rfl ?_
    refine r_lconst (pc := 23) C 0 dX1_become_23 (by decide) ?_
    refine r_eql (y := (0 : Int32).toInt64) (by decide) ?_
    refine xs_items (pc := 24) C w_ (by omega) i (rfl) (by omega) dX1_become_24 (zrN (σ 17) w_ i) (su_at) ?_
    refine r_blk (blk' := wX cs h (su (su (su σ 15 (upd (σ 15) w_ x)) 16 (upd (σ 16) w_ k)) 17 (upd (zrN (σ 17) w_ i) (40 * w_ + i) 0))) (congrArg (wX cs h) (by rw [su_su])) ?_
    refine r_iinc (pc := 25) C (nI (i + 1)) 3 [(3, .int (nI (i + 1))), (0, .ref (h (47 + w_))), (1, .int x), (2, .int k)] dX1_become_25 rfl (nI_1 _) (by decide) rfl ?_
    refine r_goto (pc := 28) C 12 dX1_become_28 (by decide) ?_
    refine r_pick (lv' := [(0, .ref (h (47 + w_))), (1, .int x), (2, .int k), (3, .int (nI (i + 1)))]) [1, 2, 3, 0] rfl ?_
    refine r_blk (blk' := wX cs h (su (su (su σ 15 (upd (σ 15) w_ x)) 16 (upd (σ 16) w_ k)) 17 (zrN (σ 17) w_ (i + 1)))) (rfl) ?_
    exact ih_12 (by omega) (trivial)
theorem t_X1_become' (l : Launch) (ad : Nat → Nat) (D : va_G) (cs : Nat → ClassId) (h : Nat → Nat) (σ : Nat → Nat → Int32) (pre post : va_W) (f15_ : Nat → Int32) (e15_ : σ 15 = f15_) (f16_ : Nat → Int32) (e16_ : σ 16 = f16_) (f17_ : Nat → Int32) (e17_ : σ 17 = f17_) (w_ : Nat) (x k : Int32) (hw_ : w_ < 4) : CTv l yX1_become cX1_become 4 ({ frames := 0, cells := 0, slots := 0, locals := 0 }) ad D (tysW cs) (pre ++ (wX cs h σ ++ post)) [.ref (h (47 + w_)), .int x, .int k] (pre ++ (wX cs h (su (su (su σ 15 (upd (f15_) w_ x)) 16 (upd (f16_) w_ k)) 17 (zrN (f17_) w_ 40)) ++ post)) := by
  subst e15_; subst e16_; subst e17_
  exact t_X1_become l ad D cs h σ pre post w_ x k hw_
theorem dX5_narrowed_0 : decode cX5_narrowed 0 = .ok (.iload_n 1, 1) := by decide +kernel
theorem dX5_narrowed_1 : decode cX5_narrowed 1 = .ok (.lookupswitch 35 #[(0, 27), (1, 31)], 27) := by decide +kernel
theorem dX5_narrowed_28 : decode cX5_narrowed 28 = .ok (.iload_n 0, 1) := by decide +kernel
theorem dX5_narrowed_29 : decode cX5_narrowed 29 = .ok (.i2b, 1) := by decide +kernel
theorem dX5_narrowed_30 : decode cX5_narrowed 30 = .ok (.i2l, 1) := by decide +kernel
theorem dX5_narrowed_31 : decode cX5_narrowed 31 = .ok (.lreturn, 1) := by decide +kernel
theorem dX5_narrowed_32 : decode cX5_narrowed 32 = .ok (.iload_n 0, 1) := by decide +kernel
theorem dX5_narrowed_33 : decode cX5_narrowed 33 = .ok (.i2s, 1) := by decide +kernel
theorem dX5_narrowed_34 : decode cX5_narrowed 34 = .ok (.i2l, 1) := by decide +kernel
theorem dX5_narrowed_35 : decode cX5_narrowed 35 = .ok (.lreturn, 1) := by decide +kernel
theorem dX5_narrowed_36 : decode cX5_narrowed 36 = .ok (.iload_n 0, 1) := by decide +kernel
theorem dX5_narrowed_37 : decode cX5_narrowed 37 = .ok (.i2l, 1) := by decide +kernel
theorem dX5_narrowed_38 : decode cX5_narrowed 38 = .ok (.lreturn, 1) := by decide +kernel
set_option maxHeartbeats 400000 in
set_option maxRecDepth 20000 in
theorem t_X5_narrowed (l : Launch) (ad : Nat → Nat) (D : va_G) (tys : List (ClassId × FieldType)) (bk : va_W) (pre post : va_W) (v s_ : Int32)  : CTl l yX5_narrowed cX5_narrowed 2 ({ frames := 0, cells := 0, slots := 0, locals := 0 }) ad D tys (pre ++ (bk ++ post)) [.int v, .int s_] ((narF s_ v).toInt64) (pre ++ (bk ++ post)) := by
  refine CTl.of (lv0 := [(0, .int v), (1, .int s_)]) (by decide) rfl (Nat.le_of_ble_eq_true rfl) (fun p e s m args below meth c A C hr hlk => ?_)
  have C : Cx p s m args c cX5_narrowed 2 RX5 ad D tys A := C
  refine r_iload_n (pc := 0) C 1 dX5_narrowed_0 rfl rfl ?_
  by_cases w_1_0 : s_ = 0
  · skip
    refine r_lookup (pc := 1) C (off := 27) 27 28 dX5_narrowed_1 (by decide) (by rw [w_1_0]; rfl) (by decide) ?_
    refine r_iload_n (pc := 28) C 0 dX5_narrowed_28 rfl rfl ?_
    refine r_i2b (pc := 29) C dX5_narrowed_29 ?_
    refine r_i2l (pc := 30) C dX5_narrowed_30 ?_
    exact r_lret (pc := 31) C hr hlk dX5_narrowed_31 (by simp [narF, *]) rfl
  by_cases w_1_1 : s_ = 1
  · skip
    refine r_lookup (pc := 1) C (off := 31) 27 32 dX5_narrowed_1 (by decide) (by rw [w_1_1]; rfl) (by decide) ?_
    refine r_iload_n (pc := 32) C 0 dX5_narrowed_32 rfl rfl ?_
    refine r_i2s (pc := 33) C dX5_narrowed_33 ?_
    refine r_i2l (pc := 34) C dX5_narrowed_34 ?_
    exact r_lret (pc := 35) C hr hlk dX5_narrowed_35 (by simp [narF, *]) rfl
  refine r_lookup (pc := 1) C (off := 35) 27 36 dX5_narrowed_1 (by decide) (by show Op.lookupswitch.offset [(0, 27), (1, 31)] 35 _ = _; exact (lv_osw w_1_0 rfl).trans ((lv_osw w_1_1 rfl).trans (rfl))) (by decide) ?_
  refine r_iload_n (pc := 36) C 0 dX5_narrowed_36 rfl rfl ?_
  refine r_i2l (pc := 37) C dX5_narrowed_37 ?_
  exact r_lret (pc := 38) C hr hlk dX5_narrowed_38 (by simp [narF, *]) rfl
theorem dX5_sheet_0 : decode cX5_sheet 0 = .ok (.iload_n 1, 1) := by decide +kernel
theorem dX5_sheet_1 : decode cX5_sheet 1 = .ok (.invokestatic 190, 3) := by decide +kernel
theorem dX5_sheet_4 : decode cX5_sheet 4 = .ok (.ifCond .eq 23, 3) := by decide +kernel
theorem dX5_sheet_7 : decode cX5_sheet 7 = .ok (.iload_n 2, 1) := by decide +kernel
theorem dX5_sheet_8 : decode cX5_sheet 8 = .ok (.iconst (-1), 1) := by decide +kernel
theorem dX5_sheet_9 : decode cX5_sheet 9 = .ok (.iconst 3, 1) := by decide +kernel
theorem dX5_sheet_10 : decode cX5_sheet 10 = .ok (.invokestatic 59, 3) := by decide +kernel
theorem dX5_sheet_13 : decode cX5_sheet 13 = .ok (.ifCond .eq 14, 3) := by decide +kernel
theorem dX5_sheet_16 : decode cX5_sheet 16 = .ok (.iload_n 2, 1) := by decide +kernel
theorem dX5_sheet_17 : decode cX5_sheet 17 = .ok (.iconst (-1), 1) := by decide +kernel
theorem dX5_sheet_18 : decode cX5_sheet 18 = .ok (.if_icmp .eq 11, 3) := by decide +kernel
theorem dX5_sheet_21 : decode cX5_sheet 21 = .ok (.iload_n 3, 1) := by decide +kernel
theorem dX5_sheet_22 : decode cX5_sheet 22 = .ok (.bipush 40, 2) := by decide +kernel
theorem dX5_sheet_24 : decode cX5_sheet 24 = .ok (.if_icmp .le 5, 3) := by decide +kernel
theorem dX5_sheet_27 : decode cX5_sheet 27 = .ok (.iconst (-1), 1) := by decide +kernel
theorem dX5_sheet_28 : decode cX5_sheet 28 = .ok (.ireturn, 1) := by decide +kernel
theorem dX5_sheet_29 : decode cX5_sheet 29 = .ok (.iload_n 2, 1) := by decide +kernel
theorem dX5_sheet_30 : decode cX5_sheet 30 = .ok (.iconst (-1), 1) := by decide +kernel
theorem dX5_sheet_31 : decode cX5_sheet 31 = .ok (.if_icmp .eq 10, 3) := by decide +kernel
theorem dX5_sheet_34 : decode cX5_sheet 34 = .ok (.iload_n 3, 1) := by decide +kernel
theorem dX5_sheet_35 : decode cX5_sheet 35 = .ok (.ifCond .ge 6, 3) := by decide +kernel
theorem dX5_sheet_38 : decode cX5_sheet 38 = .ok (.bipush (-14), 2) := by decide +kernel
theorem dX5_sheet_40 : decode cX5_sheet 40 = .ok (.ireturn, 1) := by decide +kernel
theorem dX5_sheet_41 : decode cX5_sheet 41 = .ok (.aload_n 0, 1) := by decide +kernel
theorem dX5_sheet_42 : decode cX5_sheet 42 = .ok (.getfield 36, 3) := by decide +kernel
theorem dX5_sheet_45 : decode cX5_sheet 45 = .ok (.iload_n 1, 1) := by decide +kernel
theorem dX5_sheet_46 : decode cX5_sheet 46 = .ok (.aaload, 1) := by decide +kernel
theorem dX5_sheet_47 : decode cX5_sheet 47 = .ok (.iload_n 2, 1) := by decide +kernel
theorem dX5_sheet_48 : decode cX5_sheet 48 = .ok (.iload_n 2, 1) := by decide +kernel
theorem dX5_sheet_49 : decode cX5_sheet 49 = .ok (.iconst (-1), 1) := by decide +kernel
theorem dX5_sheet_50 : decode cX5_sheet 50 = .ok (.if_icmp .ne 7, 3) := by decide +kernel
theorem dX5_sheet_53 : decode cX5_sheet 53 = .ok (.iconst 0, 1) := by decide +kernel
theorem dX5_sheet_54 : decode cX5_sheet 54 = .ok (.goto 4, 3) := by decide +kernel
theorem dX5_sheet_57 : decode cX5_sheet 57 = .ok (.iload_n 3, 1) := by decide +kernel
theorem dX5_sheet_58 : decode cX5_sheet 58 = .ok (.invokevirtual 230, 3) := by decide +kernel
theorem dX5_sheet_61 : decode cX5_sheet 61 = .ok (.iconst 1, 1) := by decide +kernel
theorem dX5_sheet_62 : decode cX5_sheet 62 = .ok (.ireturn, 1) := by decide +kernel
set_option maxHeartbeats 400000 in
set_option maxRecDepth 20000 in
theorem t_X5_sheet (l : Launch) (ad : Nat → Nat) (D : va_G) (cs : Nat → ClassId) (h : Nat → Nat) (σ : Nat → Nat → Int32) (pre post : va_W) (n : Nat) (g x k : Int32) (hN : σ 0 0 = nI n) (hn : n ≤ 8) (hR : rgM n (σ 0)) : CTi l yX5_sheet cX5_sheet 4 .int ({ frames := 2, cells := 0, slots := 0, locals := 42 }) ad D (tysW cs) (pre ++ (wX cs h σ ++ post)) [.ref (h 0), .int g, .int x, .int k] (gateI (sheB g x k) (gateI (sheC g x k) 1 (-14)) (-1)) (pre ++ (wX cs h (su (su (su σ 15 (gateF (sheC g x k) (upd (σ 15) g.toNatClampNeg x) (σ 15))) 16 (gateF (sheC g x k) (upd (σ 16) g.toNatClampNeg (if x < 0 then 0 else k)) (σ 16))) 17 (gateF (sheC g x k) (zrN (σ 17) g.toNatClampNeg 40) (σ 17))) ++ post)) := by
  refine CTi.of (lv0 := [(0, .ref (h 0)), (1, .int g), (2, .int x), (3, .int k)]) (by decide) rfl (Nat.le_of_ble_eq_true rfl) (fun p e s m args below meth c A C hr hlk => ?_)
  have C : Cx p s m args c cX5_sheet 4 RX5 ad D (tysW cs) A := C
  refine r_iload_n (pc := 0) C 1 dX5_sheet_0 rfl rfl ?_
  refine rc_Si (pc := 1) C (t_X5_isPlace l ad D (tysW cs) (wX cs h σ) pre post  g ) ms_X5_isPlace ml_RX5_190 rfl ⟨Nat.le_of_ble_eq_true rfl, Nat.le_of_ble_eq_true rfl⟩ ⟨rfl, rfl⟩ rfl rfl rfl (Nat.le_of_ble_eq_true rfl) dX5_sheet_1 ?_
  refine r_if_eq (pc := 4) C 27 dX5_sheet_4 (by decide) (fun c_1 => ?_) (fun c_1 => ?_)
  · skip
    have c_1 := bI_0.mp c_1
    refine r_iconst (pc := 27) C (-1) dX5_sheet_27 (by decide) ?_
    exact r_iret (pc := 28) C hr hlk dX5_sheet_28 rfl (by first | rfl | (simp [gateI, gateF, sheB, sheC, *]; done) | simp_all [gateI, gateF, sheB, sheC]) (by rw [show (gateF (sheC g x k) (upd (σ 15) g.toNatClampNeg x) (σ 15) : Nat → Int32) = σ 15 from (by first | rfl | (simp [gateI, gateF, sheB, sheC, *]; done) | simp_all [gateI, gateF, sheB, sheC]), show (gateF (sheC g x k) (upd (σ 16) g.toNatClampNeg (if x < 0 then 0 else k)) (σ 16) : Nat → Int32) = σ 16 from (by first | rfl | (simp [gateI, gateF, sheB, sheC, *]; done) | simp_all [gateI, gateF, sheB, sheC]), show (gateF (sheC g x k) (zrN (σ 17) g.toNatClampNeg 40) (σ 17) : Nat → Int32) = σ 17 from (by first | rfl | (simp [gateI, gateF, sheB, sheC, *]; done) | simp_all [gateI, gateF, sheB, sheC])] <;> rfl)
  · skip
    have c_1 := bI_n.mp c_1
    obtain ⟨f, l_f, h_f, rfl⟩ := rng_nat 0 3 (by decide) (by decide) c_1
    have e_f : (nI f).toNatClampNeg = f := nI_clamp (by omega)
    refine r_iload_n (pc := 7) C 2 dX5_sheet_7 rfl rfl ?_
    refine r_iconst (pc := 8) C (-1) dX5_sheet_8 (by decide) ?_
    refine r_iconst (pc := 9) C 3 dX5_sheet_9 (by decide) ?_
    refine rc_Si (pc := 10) C (t_X5_isWithin l ad D (tysW cs) (wX cs h σ) pre post  x (-1) (3 : Int32) ) ms_X5_isWithin ml_RX5_59 rfl ⟨Nat.le_of_ble_eq_true rfl, Nat.le_of_ble_eq_true rfl⟩ ⟨rfl, rfl⟩ rfl rfl rfl (Nat.le_of_ble_eq_true rfl) dX5_sheet_10 ?_
    refine r_if_eq (pc := 13) C 27 dX5_sheet_13 (by decide) (fun c_2 => ?_) (fun c_2 => ?_)
    · skip
      have c_2 := bI_0.mp c_2
      refine r_iconst (pc := 27) C (-1) dX5_sheet_27 (by decide) ?_
      exact r_iret (pc := 28) C hr hlk dX5_sheet_28 rfl (by first | rfl | (simp [gateI, gateF, sheB, sheC, *]; done) | simp_all [gateI, gateF, sheB, sheC]) (by rw [show (gateF (sheC (nI f) x k) (upd (σ 15) (nI f).toNatClampNeg x) (σ 15) : Nat → Int32) = σ 15 from (by first | rfl | (simp [gateI, gateF, sheB, sheC, *]; done) | simp_all [gateI, gateF, sheB, sheC]), show (gateF (sheC (nI f) x k) (upd (σ 16) (nI f).toNatClampNeg (if x < 0 then 0 else k)) (σ 16) : Nat → Int32) = σ 16 from (by first | rfl | (simp [gateI, gateF, sheB, sheC, *]; done) | simp_all [gateI, gateF, sheB, sheC]), show (gateF (sheC (nI f) x k) (zrN (σ 17) (nI f).toNatClampNeg 40) (σ 17) : Nat → Int32) = σ 17 from (by first | rfl | (simp [gateI, gateF, sheB, sheC, *]; done) | simp_all [gateI, gateF, sheB, sheC])] <;> rfl)
    · skip
      have c_2 := bI_n.mp c_2
      refine r_iload_n (pc := 16) C 2 dX5_sheet_16 rfl rfl ?_
      refine r_iconst (pc := 17) C (-1) dX5_sheet_17 (by decide) ?_
      refine r_icmp_eq (pc := 18) C 29 dX5_sheet_18 (by decide) (fun c_3 => ?_) (fun c_3 => ?_)
      · skip
        have hx0 : x < 0 := by rw [c_3]; decide
        refine r_iload_n (pc := 29) C 2 dX5_sheet_29 rfl rfl ?_
        refine r_iconst (pc := 30) C (-1) dX5_sheet_30 (by decide) ?_
        refine r_icmp_eq (pc := 31) C 41 dX5_sheet_31 (by decide) (fun c_4 => ?_) (fun c_4 => ?_)
        · skip
          refine r_aload_n (pc := 41) C 0 dX5_sheet_41 rfl rfl ?_
          refine xg_sheets (pc := 42) C fl_RX5_36 dX5_sheet_42 ?_
          refine r_iload_n (pc := 45) C 1 dX5_sheet_45 rfl rfl ?_
          refine xa_sheets (pc := 46) C f (rfl) (by omega) dX5_sheet_46 ?_
          refine r_iload_n (pc := 47) C 2 dX5_sheet_47 rfl rfl ?_
          refine r_iload_n (pc := 48) C 2 dX5_sheet_48 rfl rfl ?_
          refine r_iconst (pc := 49) C (-1) dX5_sheet_49 (by decide) ?_
          refine r_icmp_ne (pc := 50) C 57 dX5_sheet_50 (by decide) (fun c_5 => ?_) (fun c_5 => ?_)
          · skip
            exact absurd c_3 c_5
          · skip
            refine r_iconst (pc := 53) C 0 dX5_sheet_53 (by decide) ?_
            refine r_goto (pc := 54) C 58 dX5_sheet_54 (by decide) ?_
            refine rc_Vv (pc := 58) C (t_X1_become' l ad D cs h σ pre post (σ 15) (rfl) (σ 16) (rfl) (σ 17) (rfl) f x (0 : Int32) (by omega)) mv_X1_become ml_RX5_230 rfl ⟨Nat.le_of_ble_eq_true rfl, Nat.le_of_ble_eq_true rfl⟩ ⟨rfl, rfl⟩ (q0 := 47 + f) (wX_sheet (by omega)) rfl rfl rfl rfl rfl (Nat.le_of_ble_eq_true rfl) dX5_sheet_58 ?_
            refine r_iconst (pc := 61) C 1 dX5_sheet_61 (by decide) ?_
            exact r_iret (pc := 62) C hr hlk dX5_sheet_62 rfl (by first | rfl | (simp [gateI, gateF, sheB, sheC, *]; done) | simp_all [gateI, gateF, sheB, sheC]) (by rw [show (gateF (sheC (nI f) x k) (upd (σ 15) (nI f).toNatClampNeg x) (σ 15) : Nat → Int32) = upd (σ 15) f x from (by first | rfl | (simp [gateI, gateF, sheB, sheC, *]; done) | simp_all [gateI, gateF, sheB, sheC]), show (gateF (sheC (nI f) x k) (upd (σ 16) (nI f).toNatClampNeg (if x < 0 then 0 else k)) (σ 16) : Nat → Int32) = upd (σ 16) f (0 : Int32) from (by first | rfl | (simp [gateI, gateF, sheB, sheC, *]; done) | simp_all [gateI, gateF, sheB, sheC]), show (gateF (sheC (nI f) x k) (zrN (σ 17) (nI f).toNatClampNeg 40) (σ 17) : Nat → Int32) = zrN (σ 17) f 40 from (by first | rfl | (simp [gateI, gateF, sheB, sheC, *]; done) | simp_all [gateI, gateF, sheB, sheC])] <;> rfl)
        · skip
          exact absurd c_3 c_4
      · skip
        have hx0 : ¬ x < 0 := in_m1 ‹_› c_3
        refine r_iload_n (pc := 21) C 3 dX5_sheet_21 rfl rfl ?_
        refine r_bipush (pc := 22) C 40 dX5_sheet_22 (by decide) ?_
        refine r_icmp_le (pc := 24) C 29 dX5_sheet_24 (by decide) (fun c_6 => ?_) (fun c_6 => ?_)
        · skip
          refine r_iload_n (pc := 29) C 2 dX5_sheet_29 rfl rfl ?_
          refine r_iconst (pc := 30) C (-1) dX5_sheet_30 (by decide) ?_
          refine r_icmp_eq (pc := 31) C 41 dX5_sheet_31 (by decide) (fun c_7 => ?_) (fun c_7 => ?_)
          · skip
            exact absurd c_7 c_3
          · skip
            refine r_iload_n (pc := 34) C 3 dX5_sheet_34 rfl rfl ?_
            refine r_if_ge (pc := 35) C 41 dX5_sheet_35 (by decide) (fun c_8 => ?_) (fun c_8 => ?_)
            · skip
              refine r_aload_n (pc := 41) C 0 dX5_sheet_41 rfl rfl ?_
              refine xg_sheets (pc := 42) C fl_RX5_36 dX5_sheet_42 ?_
              refine r_iload_n (pc := 45) C 1 dX5_sheet_45 rfl rfl ?_
              refine xa_sheets (pc := 46) C f (rfl) (by omega) dX5_sheet_46 ?_
              refine r_iload_n (pc := 47) C 2 dX5_sheet_47 rfl rfl ?_
              refine r_iload_n (pc := 48) C 2 dX5_sheet_48 rfl rfl ?_
              refine r_iconst (pc := 49) C (-1) dX5_sheet_49 (by decide) ?_
              refine r_icmp_ne (pc := 50) C 57 dX5_sheet_50 (by decide) (fun c_9 => ?_) (fun c_9 => ?_)
              · skip
                refine r_iload_n (pc := 57) C 3 dX5_sheet_57 rfl rfl ?_
                refine rc_Vv (pc := 58) C (t_X1_become' l ad D cs h σ pre post (σ 15) (rfl) (σ 16) (rfl) (σ 17) (rfl) f x k (by omega)) mv_X1_become ml_RX5_230 rfl ⟨Nat.le_of_ble_eq_true rfl, Nat.le_of_ble_eq_true rfl⟩ ⟨rfl, rfl⟩ (q0 := 47 + f) (wX_sheet (by omega)) rfl rfl rfl rfl rfl (Nat.le_of_ble_eq_true rfl) dX5_sheet_58 ?_
                refine r_iconst (pc := 61) C 1 dX5_sheet_61 (by decide) ?_
                exact r_iret (pc := 62) C hr hlk dX5_sheet_62 rfl (by first | rfl | (simp [gateI, gateF, sheB, sheC, *]; done) | simp_all [gateI, gateF, sheB, sheC]) (by rw [show (gateF (sheC (nI f) x k) (upd (σ 15) (nI f).toNatClampNeg x) (σ 15) : Nat → Int32) = upd (σ 15) f x from (by first | rfl | (simp [gateI, gateF, sheB, sheC, *]; done) | simp_all [gateI, gateF, sheB, sheC]), show (gateF (sheC (nI f) x k) (upd (σ 16) (nI f).toNatClampNeg (if x < 0 then 0 else k)) (σ 16) : Nat → Int32) = upd (σ 16) f k from (by first | rfl | (simp [gateI, gateF, sheB, sheC, *]; done) | simp_all [gateI, gateF, sheB, sheC]), show (gateF (sheC (nI f) x k) (zrN (σ 17) (nI f).toNatClampNeg 40) (σ 17) : Nat → Int32) = zrN (σ 17) f 40 from (by first | rfl | (simp [gateI, gateF, sheB, sheC, *]; done) | simp_all [gateI, gateF, sheB, sheC])] <;> rfl)
              · skip
                exact absurd c_9 c_3
            · skip
              refine r_bipush (pc := 38) C (-14) dX5_sheet_38 (by decide) ?_
              exact r_iret (pc := 40) C hr hlk dX5_sheet_40 rfl (by first | rfl | (simp [gateI, gateF, sheB, sheC, *]; done) | simp_all [gateI, gateF, sheB, sheC]) (by rw [show (gateF (sheC (nI f) x k) (upd (σ 15) (nI f).toNatClampNeg x) (σ 15) : Nat → Int32) = σ 15 from (by first | rfl | (simp [gateI, gateF, sheB, sheC, *]; done) | simp_all [gateI, gateF, sheB, sheC]), show (gateF (sheC (nI f) x k) (upd (σ 16) (nI f).toNatClampNeg (if x < 0 then 0 else k)) (σ 16) : Nat → Int32) = σ 16 from (by first | rfl | (simp [gateI, gateF, sheB, sheC, *]; done) | simp_all [gateI, gateF, sheB, sheC]), show (gateF (sheC (nI f) x k) (zrN (σ 17) (nI f).toNatClampNeg 40) (σ 17) : Nat → Int32) = σ 17 from (by first | rfl | (simp [gateI, gateF, sheB, sheC, *]; done) | simp_all [gateI, gateF, sheB, sheC])] <;> rfl)
        · skip
          refine r_iconst (pc := 27) C (-1) dX5_sheet_27 (by decide) ?_
          exact r_iret (pc := 28) C hr hlk dX5_sheet_28 rfl (by first | rfl | (simp [gateI, gateF, sheB, sheC, *]; done) | simp_all [gateI, gateF, sheB, sheC]) (by rw [show (gateF (sheC (nI f) x k) (upd (σ 15) (nI f).toNatClampNeg x) (σ 15) : Nat → Int32) = σ 15 from (by first | rfl | (simp [gateI, gateF, sheB, sheC, *]; done) | simp_all [gateI, gateF, sheB, sheC]), show (gateF (sheC (nI f) x k) (upd (σ 16) (nI f).toNatClampNeg (if x < 0 then 0 else k)) (σ 16) : Nat → Int32) = σ 16 from (by first | rfl | (simp [gateI, gateF, sheB, sheC, *]; done) | simp_all [gateI, gateF, sheB, sheC]), show (gateF (sheC (nI f) x k) (zrN (σ 17) (nI f).toNatClampNeg 40) (σ 17) : Nat → Int32) = σ 17 from (by first | rfl | (simp [gateI, gateF, sheB, sheC, *]; done) | simp_all [gateI, gateF, sheB, sheC])] <;> rfl)
theorem t_X5_sheet' (l : Launch) (ad : Nat → Nat) (D : va_G) (cs : Nat → ClassId) (h : Nat → Nat) (σ : Nat → Nat → Int32) (pre post : va_W) (f0_ : Nat → Int32) (e0_ : σ 0 = f0_) (f15_ : Nat → Int32) (e15_ : σ 15 = f15_) (f16_ : Nat → Int32) (e16_ : σ 16 = f16_) (f17_ : Nat → Int32) (e17_ : σ 17 = f17_) (n : Nat) (g x k : Int32) (hN : f0_ 0 = nI n) (hn : n ≤ 8) (hR : rgM n f0_) : CTi l yX5_sheet cX5_sheet 4 .int ({ frames := 2, cells := 0, slots := 0, locals := 42 }) ad D (tysW cs) (pre ++ (wX cs h σ ++ post)) [.ref (h 0), .int g, .int x, .int k] (gateI (sheB g x k) (gateI (sheC g x k) 1 (-14)) (-1)) (pre ++ (wX cs h (su (su (su σ 15 (gateF (sheC g x k) (upd (f15_) g.toNatClampNeg x) (f15_))) 16 (gateF (sheC g x k) (upd (f16_) g.toNatClampNeg (if x < 0 then 0 else k)) (f16_))) 17 (gateF (sheC g x k) (zrN (f17_) g.toNatClampNeg 40) (f17_))) ++ post)) := by
  subst e0_; subst e15_; subst e16_; subst e17_
  exact t_X5_sheet l ad D cs h σ pre post n g x k hN hn hR
theorem dX5_put_0 : decode cX5_put 0 = .ok (.iload_n 1, 1) := by decide +kernel
theorem dX5_put_1 : decode cX5_put 1 = .ok (.invokestatic 190, 3) := by decide +kernel
theorem dX5_put_4 : decode cX5_put 4 = .ok (.ifCond .ne 5, 3) := by decide +kernel
theorem dX5_put_7 : decode cX5_put 7 = .ok (.iconst (-1), 1) := by decide +kernel
theorem dX5_put_8 : decode cX5_put 8 = .ok (.ireturn, 1) := by decide +kernel
theorem dX5_put_9 : decode cX5_put 9 = .ok (.aload_n 0, 1) := by decide +kernel
theorem dX5_put_10 : decode cX5_put 10 = .ok (.getfield 36, 3) := by decide +kernel
theorem dX5_put_13 : decode cX5_put 13 = .ok (.iload_n 1, 1) := by decide +kernel
theorem dX5_put_14 : decode cX5_put 14 = .ok (.aaload, 1) := by decide +kernel
theorem dX5_put_15 : decode cX5_put 15 = .ok (.astore 4, 2) := by decide +kernel
theorem dX5_put_17 : decode cX5_put 17 = .ok (.aload 4, 2) := by decide +kernel
theorem dX5_put_19 : decode cX5_put 19 = .ok (.getfield 193, 3) := by decide +kernel
theorem dX5_put_22 : decode cX5_put 22 = .ok (.iconst (-1), 1) := by decide +kernel
theorem dX5_put_23 : decode cX5_put 23 = .ok (.if_icmp .ne 6, 3) := by decide +kernel
theorem dX5_put_26 : decode cX5_put 26 = .ok (.bipush (-11), 2) := by decide +kernel
theorem dX5_put_28 : decode cX5_put 28 = .ok (.ireturn, 1) := by decide +kernel
theorem dX5_put_29 : decode cX5_put 29 = .ok (.iload_n 2, 1) := by decide +kernel
theorem dX5_put_30 : decode cX5_put 30 = .ok (.iconst 0, 1) := by decide +kernel
theorem dX5_put_31 : decode cX5_put 31 = .ok (.aload 4, 2) := by decide +kernel
theorem dX5_put_33 : decode cX5_put 33 = .ok (.getfield 222, 3) := by decide +kernel
theorem dX5_put_36 : decode cX5_put 36 = .ok (.iconst 1, 1) := by decide +kernel
theorem dX5_put_37 : decode cX5_put 37 = .ok (.isub, 1) := by decide +kernel
theorem dX5_put_38 : decode cX5_put 38 = .ok (.invokestatic 59, 3) := by decide +kernel
theorem dX5_put_41 : decode cX5_put 41 = .ok (.ifCond .ne 6, 3) := by decide +kernel
theorem dX5_put_44 : decode cX5_put 44 = .ok (.bipush (-12), 2) := by decide +kernel
theorem dX5_put_46 : decode cX5_put 46 = .ok (.ireturn, 1) := by decide +kernel
theorem dX5_put_47 : decode cX5_put 47 = .ok (.aload 4, 2) := by decide +kernel
theorem dX5_put_49 : decode cX5_put 49 = .ok (.getfield 223, 3) := by decide +kernel
theorem dX5_put_52 : decode cX5_put 52 = .ok (.iload_n 2, 1) := by decide +kernel
theorem dX5_put_53 : decode cX5_put 53 = .ok (.iload_n 3, 1) := by decide +kernel
theorem dX5_put_54 : decode cX5_put 54 = .ok (.aload 4, 2) := by decide +kernel
theorem dX5_put_56 : decode cX5_put 56 = .ok (.getfield 193, 3) := by decide +kernel
theorem dX5_put_59 : decode cX5_put 59 = .ok (.invokestatic 233, 3) := by decide +kernel
theorem dX5_put_62 : decode cX5_put 62 = .ok (.lastore, 1) := by decide +kernel
theorem dX5_put_63 : decode cX5_put 63 = .ok (.iconst 1, 1) := by decide +kernel
theorem dX5_put_64 : decode cX5_put 64 = .ok (.ireturn, 1) := by decide +kernel
set_option maxHeartbeats 400000 in
set_option maxRecDepth 20000 in
theorem t_X5_put (l : Launch) (ad : Nat → Nat) (D : va_G) (cs : Nat → ClassId) (h : Nat → Nat) (σ : Nat → Nat → Int32) (pre post : va_W) (n : Nat) (g i v : Int32) (hN : σ 0 0 = nI n) (hn : n ≤ 8) (hR : rgM n (σ 0)) (hz : ∀ t : Nat, t < 4 → ∃ z : Nat, z ≤ 40 ∧ σ 16 t = nI z) (hso : ∀ t : Nat, t < 4 → -1 ≤ (σ 15 t).toInt) : CTi l yX5_put cX5_put 5 .int ({ frames := 2, cells := 0, slots := 0, locals := 42 }) ad D (tysW cs) (pre ++ (wX cs h σ ++ post)) [.ref (h 0), .int g, .int i, .int v] (gateI (inB g 0 3) (if 0 ≤ σ 15 g.toNatClampNeg then gateI (inB i 0 (σ 16 g.toNatClampNeg - 1)) 1 (-12) else -11) (-1)) (pre ++ (wX cs h (su σ 17 (gateF (inB g 0 3 && (decide (0 ≤ σ 15 g.toNatClampNeg) && inB i 0 (σ 16 g.toNatClampNeg - 1))) (upd (σ 17) (40 * g.toNatClampNeg + i.toNatClampNeg) (narF (σ 15 g.toNatClampNeg) v)) (σ 17))) ++ post)) := by
  refine CTi.of (lv0 := [(0, .ref (h 0)), (1, .int g), (2, .int i), (3, .int v)]) (by decide) rfl (Nat.le_of_ble_eq_true rfl) (fun p e s m args below meth c A C hr hlk => ?_)
  have C : Cx p s m args c cX5_put 5 RX5 ad D (tysW cs) A := C
  refine r_iload_n (pc := 0) C 1 dX5_put_0 rfl rfl ?_
  refine rc_Si (pc := 1) C (t_X5_isPlace l ad D (tysW cs) (wX cs h σ) pre post  g ) ms_X5_isPlace ml_RX5_190 rfl ⟨Nat.le_of_ble_eq_true rfl, Nat.le_of_ble_eq_true rfl⟩ ⟨rfl, rfl⟩ rfl rfl rfl (Nat.le_of_ble_eq_true rfl) dX5_put_1 ?_
  refine r_if_ne (pc := 4) C 9 dX5_put_4 (by decide) (fun c_1 => ?_) (fun c_1 => ?_)
  · skip
    have c_1 := bI_n.mp c_1
    obtain ⟨f, l_f, h_f, rfl⟩ := rng_nat 0 3 (by decide) (by decide) c_1
    have e_f : (nI f).toNatClampNeg = f := nI_clamp (by omega)
    refine r_aload_n (pc := 9) C 0 dX5_put_9 rfl rfl ?_
    refine xg_sheets (pc := 10) C fl_RX5_36 dX5_put_10 ?_
    refine r_iload_n (pc := 13) C 1 dX5_put_13 rfl rfl ?_
    refine xa_sheets (pc := 14) C f (rfl) (by omega) dX5_put_14 ?_
    refine r_astore (pc := 15) C [(4, .ref (h (47 + f))), (0, .ref (h 0)), (1, .int (nI f)), (2, .int i), (3, .int v)] dX5_put_15 (by decide) rfl ?_
    refine r_aload (pc := 17) C 0 dX5_put_17 rfl ?_
    refine xg_s_sort (by omega) (pc := 19) C fl_RX5_193 dX5_put_19 (σ 15 f) rfl ?_
    refine r_iconst (pc := 22) C (-1) dX5_put_22 (by decide) ?_
    refine r_icmp_ne (pc := 23) C 29 dX5_put_23 (by decide) (fun c_2 => ?_) (fun c_2 => ?_)
    · skip
      have hs_ := so_p (hso f (by omega)) c_2
      obtain ⟨z, hz1, hz2⟩ := hz f (by omega)
      have e_z : (nI z).toNatClampNeg = z := nI_clamp (by omega)
      refine r_iload_n (pc := 29) C 3 dX5_put_29 rfl rfl ?_
      refine r_iconst (pc := 30) C 0 dX5_put_30 (by decide) ?_
      refine r_aload (pc := 31) C 0 dX5_put_31 rfl ?_
      refine xg_s_size (by omega) (pc := 33) C fl_RX5_222 dX5_put_33 (σ 16 f) rfl ?_
      refine r_eqi (y := nI z) (hz2) ?_
      refine r_iconst (pc := 36) C 1 dX5_put_36 (by decide) ?_
      refine r_isub (pc := 37) C dX5_put_37 ?_
      refine rc_Si (pc := 38) C (t_X5_isWithin l ad D (tysW cs) (wX cs h σ) pre post  i (0 : Int32) ((nI z) - 1) ) ms_X5_isWithin ml_RX5_59 rfl ⟨Nat.le_of_ble_eq_true rfl, Nat.le_of_ble_eq_true rfl⟩ ⟨rfl, rfl⟩ rfl rfl rfl (Nat.le_of_ble_eq_true rfl) dX5_put_38 ?_
      refine r_if_ne (pc := 41) C 47 dX5_put_41 (by decide) (fun c_3 => ?_) (fun c_3 => ?_)
      · skip
        have c_3 := bI_n.mp c_3
        obtain ⟨u, h_u, rfl⟩ := rng_pred z (by omega) c_3
        have e_u : (nI u).toNatClampNeg = u := nI_clamp (by omega)
        refine r_aload (pc := 47) C 0 dX5_put_47 rfl ?_
        refine xg_s_items (by omega) (pc := 49) C fl_RX5_223 dX5_put_49 ?_
        refine r_iload_n (pc := 52) C 3 dX5_put_52 rfl rfl ?_
        refine r_iload_n (pc := 53) C 4 dX5_put_53 rfl rfl ?_
        refine r_aload (pc := 54) C 0 dX5_put_54 rfl ?_
        refine xg_s_sort (by omega) (pc := 56) C fl_RX5_193 dX5_put_56 (σ 15 f) rfl ?_
        refine rc_Sl (pc := 59) C (t_X5_narrowed l ad D (tysW cs) (wX cs h σ) pre post  v (σ 15 f) ) ms_X5_narrowed ml_RX5_233 rfl ⟨Nat.le_of_ble_eq_true rfl, Nat.le_of_ble_eq_true rfl⟩ ⟨rfl, rfl⟩ rfl rfl rfl (Nat.le_of_ble_eq_true rfl) dX5_put_59 ?_
        refine xs_items (pc := 62) C f (by omega) u (rfl) (by omega) dX5_put_62 (σ 17) (rfl) ?_
        refine r_iconst (pc := 63) C 1 dX5_put_63 (by decide) ?_
        exact r_iret (pc := 64) C hr hlk dX5_put_64 rfl (by first | rfl | (simp [gateI, gateF, *]; done) | simp_all [gateI, gateF]) (by rw [show (gateF (inB (nI f) 0 3 && (decide (0 ≤ σ 15 (nI f).toNatClampNeg) && inB (nI u) 0 (σ 16 (nI f).toNatClampNeg - 1))) (upd (σ 17) (40 * (nI f).toNatClampNeg + (nI u).toNatClampNeg) (narF (σ 15 (nI f).toNatClampNeg) v)) (σ 17) : Nat → Int32) = upd (σ 17) (40 * f + u) (narF (σ 15 f) v) from (by first | rfl | (simp [gateI, gateF, *]; done) | simp_all [gateI, gateF])] <;> rfl)
      · skip
        have c_3 := bI_0.mp c_3
        refine r_bipush (pc := 44) C (-12) dX5_put_44 (by decide) ?_
        exact r_iret (pc := 46) C hr hlk dX5_put_46 rfl (by first | rfl | (simp [gateI, gateF, *]; done) | simp_all [gateI, gateF]) (by rw [show (gateF (inB (nI f) 0 3 && (decide (0 ≤ σ 15 (nI f).toNatClampNeg) && inB i 0 (σ 16 (nI f).toNatClampNeg - 1))) (upd (σ 17) (40 * (nI f).toNatClampNeg + i.toNatClampNeg) (narF (σ 15 (nI f).toNatClampNeg) v)) (σ 17) : Nat → Int32) = σ 17 from (by first | rfl | (simp [gateI, gateF, *]; done) | simp_all [gateI, gateF])] <;> rfl)
    · skip
      have hs_ := so_m c_2
      refine r_bipush (pc := 26) C (-11) dX5_put_26 (by decide) ?_
      exact r_iret (pc := 28) C hr hlk dX5_put_28 rfl (by first | rfl | (simp [gateI, gateF, *]; done) | simp_all [gateI, gateF]) (by rw [show (gateF (inB (nI f) 0 3 && (decide (0 ≤ σ 15 (nI f).toNatClampNeg) && inB i 0 (σ 16 (nI f).toNatClampNeg - 1))) (upd (σ 17) (40 * (nI f).toNatClampNeg + i.toNatClampNeg) (narF (σ 15 (nI f).toNatClampNeg) v)) (σ 17) : Nat → Int32) = σ 17 from (by first | rfl | (simp [gateI, gateF, *]; done) | simp_all [gateI, gateF])] <;> rfl)
  · skip
    have c_1 := bI_0.mp c_1
    refine r_iconst (pc := 7) C (-1) dX5_put_7 (by decide) ?_
    exact r_iret (pc := 8) C hr hlk dX5_put_8 rfl (by first | rfl | (simp [gateI, gateF, *]; done) | simp_all [gateI, gateF]) (by rw [show (gateF (inB g 0 3 && (decide (0 ≤ σ 15 g.toNatClampNeg) && inB i 0 (σ 16 g.toNatClampNeg - 1))) (upd (σ 17) (40 * g.toNatClampNeg + i.toNatClampNeg) (narF (σ 15 g.toNatClampNeg) v)) (σ 17) : Nat → Int32) = σ 17 from (by first | rfl | (simp [gateI, gateF, *]; done) | simp_all [gateI, gateF])] <;> rfl)
theorem t_X5_put' (l : Launch) (ad : Nat → Nat) (D : va_G) (cs : Nat → ClassId) (h : Nat → Nat) (σ : Nat → Nat → Int32) (pre post : va_W) (f0_ : Nat → Int32) (e0_ : σ 0 = f0_) (f15_ : Nat → Int32) (e15_ : σ 15 = f15_) (f16_ : Nat → Int32) (e16_ : σ 16 = f16_) (f17_ : Nat → Int32) (e17_ : σ 17 = f17_) (n : Nat) (g i v : Int32) (hN : f0_ 0 = nI n) (hn : n ≤ 8) (hR : rgM n f0_) (hz : ∀ t : Nat, t < 4 → ∃ z : Nat, z ≤ 40 ∧ f16_ t = nI z) (hso : ∀ t : Nat, t < 4 → -1 ≤ (f15_ t).toInt) : CTi l yX5_put cX5_put 5 .int ({ frames := 2, cells := 0, slots := 0, locals := 42 }) ad D (tysW cs) (pre ++ (wX cs h σ ++ post)) [.ref (h 0), .int g, .int i, .int v] (gateI (inB g 0 3) (if 0 ≤ f15_ g.toNatClampNeg then gateI (inB i 0 (f16_ g.toNatClampNeg - 1)) 1 (-12) else -11) (-1)) (pre ++ (wX cs h (su σ 17 (gateF (inB g 0 3 && (decide (0 ≤ f15_ g.toNatClampNeg) && inB i 0 (f16_ g.toNatClampNeg - 1))) (upd (f17_) (40 * g.toNatClampNeg + i.toNatClampNeg) (narF (f15_ g.toNatClampNeg) v)) (f17_))) ++ post)) := by
  subst e0_; subst e15_; subst e16_; subst e17_
  exact t_X5_put l ad D cs h σ pre post n g i v hN hn hR hz hso
theorem dX5_item_0 : decode cX5_item 0 = .ok (.iload_n 1, 1) := by decide +kernel
theorem dX5_item_1 : decode cX5_item 1 = .ok (.invokestatic 190, 3) := by decide +kernel
theorem dX5_item_4 : decode cX5_item 4 = .ok (.ifCond .eq 12, 3) := by decide +kernel
theorem dX5_item_7 : decode cX5_item 7 = .ok (.iload_n 2, 1) := by decide +kernel
theorem dX5_item_8 : decode cX5_item 8 = .ok (.iconst 0, 1) := by decide +kernel
theorem dX5_item_9 : decode cX5_item 9 = .ok (.iconst 3, 1) := by decide +kernel
theorem dX5_item_10 : decode cX5_item 10 = .ok (.invokestatic 59, 3) := by decide +kernel
theorem dX5_item_13 : decode cX5_item 13 = .ok (.ifCond .ne 5, 3) := by decide +kernel
theorem dX5_item_16 : decode cX5_item 16 = .ok (.iconst (-1), 1) := by decide +kernel
theorem dX5_item_17 : decode cX5_item 17 = .ok (.ireturn, 1) := by decide +kernel
theorem dX5_item_18 : decode cX5_item 18 = .ok (.aload_n 0, 1) := by decide +kernel
theorem dX5_item_19 : decode cX5_item 19 = .ok (.getfield 36, 3) := by decide +kernel
theorem dX5_item_22 : decode cX5_item 22 = .ok (.iload_n 1, 1) := by decide +kernel
theorem dX5_item_23 : decode cX5_item 23 = .ok (.aaload, 1) := by decide +kernel
theorem dX5_item_24 : decode cX5_item 24 = .ok (.astore 4, 2) := by decide +kernel
theorem dX5_item_26 : decode cX5_item 26 = .ok (.aload 4, 2) := by decide +kernel
theorem dX5_item_28 : decode cX5_item 28 = .ok (.getfield 193, 3) := by decide +kernel
theorem dX5_item_31 : decode cX5_item 31 = .ok (.iconst (-1), 1) := by decide +kernel
theorem dX5_item_32 : decode cX5_item 32 = .ok (.if_icmp .ne 6, 3) := by decide +kernel
theorem dX5_item_35 : decode cX5_item 35 = .ok (.bipush (-11), 2) := by decide +kernel
theorem dX5_item_37 : decode cX5_item 37 = .ok (.ireturn, 1) := by decide +kernel
theorem dX5_item_38 : decode cX5_item 38 = .ok (.aload 4, 2) := by decide +kernel
theorem dX5_item_40 : decode cX5_item 40 = .ok (.getfield 193, 3) := by decide +kernel
theorem dX5_item_43 : decode cX5_item 43 = .ok (.iload_n 2, 1) := by decide +kernel
theorem dX5_item_44 : decode cX5_item 44 = .ok (.if_icmp .eq 6, 3) := by decide +kernel
theorem dX5_item_47 : decode cX5_item 47 = .ok (.bipush (-13), 2) := by decide +kernel
theorem dX5_item_49 : decode cX5_item 49 = .ok (.ireturn, 1) := by decide +kernel
theorem dX5_item_50 : decode cX5_item 50 = .ok (.iload_n 3, 1) := by decide +kernel
theorem dX5_item_51 : decode cX5_item 51 = .ok (.iconst 0, 1) := by decide +kernel
theorem dX5_item_52 : decode cX5_item 52 = .ok (.aload 4, 2) := by decide +kernel
theorem dX5_item_54 : decode cX5_item 54 = .ok (.getfield 222, 3) := by decide +kernel
theorem dX5_item_57 : decode cX5_item 57 = .ok (.iconst 1, 1) := by decide +kernel
theorem dX5_item_58 : decode cX5_item 58 = .ok (.isub, 1) := by decide +kernel
theorem dX5_item_59 : decode cX5_item 59 = .ok (.invokestatic 59, 3) := by decide +kernel
theorem dX5_item_62 : decode cX5_item 62 = .ok (.ifCond .eq 14, 3) := by decide +kernel
theorem dX5_item_65 : decode cX5_item 65 = .ok (.aload 4, 2) := by decide +kernel
theorem dX5_item_67 : decode cX5_item 67 = .ok (.getfield 223, 3) := by decide +kernel
theorem dX5_item_70 : decode cX5_item 70 = .ok (.iload_n 3, 1) := by decide +kernel
theorem dX5_item_71 : decode cX5_item 71 = .ok (.laload, 1) := by decide +kernel
theorem dX5_item_72 : decode cX5_item 72 = .ok (.l2i, 1) := by decide +kernel
theorem dX5_item_73 : decode cX5_item 73 = .ok (.goto 5, 3) := by decide +kernel
theorem dX5_item_76 : decode cX5_item 76 = .ok (.bipush (-12), 2) := by decide +kernel
theorem dX5_item_78 : decode cX5_item 78 = .ok (.ireturn, 1) := by decide +kernel
set_option maxHeartbeats 400000 in
set_option maxRecDepth 20000 in
theorem t_X5_item (l : Launch) (ad : Nat → Nat) (D : va_G) (cs : Nat → ClassId) (h : Nat → Nat) (σ : Nat → Nat → Int32) (pre post : va_W) (n : Nat) (g x i : Int32) (hN : σ 0 0 = nI n) (hn : n ≤ 8) (hR : rgM n (σ 0)) (hz : ∀ t : Nat, t < 4 → ∃ z : Nat, z ≤ 40 ∧ σ 16 t = nI z) (hso : ∀ t : Nat, t < 4 → -1 ≤ (σ 15 t).toInt) : CTi l yX5_item cX5_item 5 .int ({ frames := 2, cells := 0, slots := 0, locals := 42 }) ad D (tysW cs) (pre ++ (wX cs h σ ++ post)) [.ref (h 0), .int g, .int x, .int i] (gateI (inB g 0 3 && inB x 0 3) (if lkF (σ 15) g.toNatClampNeg x = 0 then gateI (inB i 0 (σ 16 g.toNatClampNeg - 1)) (σ 17 (40 * g.toNatClampNeg + i.toNatClampNeg)) (-12) else lkF (σ 15) g.toNatClampNeg x) (-1)) (pre ++ (wX cs h σ ++ post)) := by
  refine CTi.of (lv0 := [(0, .ref (h 0)), (1, .int g), (2, .int x), (3, .int i)]) (by decide) rfl (Nat.le_of_ble_eq_true rfl) (fun p e s m args below meth c A C hr hlk => ?_)
  have C : Cx p s m args c cX5_item 5 RX5 ad D (tysW cs) A := C
  refine r_iload_n (pc := 0) C 1 dX5_item_0 rfl rfl ?_
  refine rc_Si (pc := 1) C (t_X5_isPlace l ad D (tysW cs) (wX cs h σ) pre post  g ) ms_X5_isPlace ml_RX5_190 rfl ⟨Nat.le_of_ble_eq_true rfl, Nat.le_of_ble_eq_true rfl⟩ ⟨rfl, rfl⟩ rfl rfl rfl (Nat.le_of_ble_eq_true rfl) dX5_item_1 ?_
  refine r_if_eq (pc := 4) C 16 dX5_item_4 (by decide) (fun c_1 => ?_) (fun c_1 => ?_)
  · skip
    have c_1 := bI_0.mp c_1
    refine r_iconst (pc := 16) C (-1) dX5_item_16 (by decide) ?_
    exact r_iret (pc := 17) C hr hlk dX5_item_17 rfl (by first | rfl | (simp [gateI, gateF, lkF, *]; done) | simp_all [gateI, gateF, lkF]) rfl
  · skip
    have c_1 := bI_n.mp c_1
    obtain ⟨f, l_f, h_f, rfl⟩ := rng_nat 0 3 (by decide) (by decide) c_1
    have e_f : (nI f).toNatClampNeg = f := nI_clamp (by omega)
    refine r_iload_n (pc := 7) C 2 dX5_item_7 rfl rfl ?_
    refine r_iconst (pc := 8) C 0 dX5_item_8 (by decide) ?_
    refine r_iconst (pc := 9) C 3 dX5_item_9 (by decide) ?_
    refine rc_Si (pc := 10) C (t_X5_isWithin l ad D (tysW cs) (wX cs h σ) pre post  x (0 : Int32) (3 : Int32) ) ms_X5_isWithin ml_RX5_59 rfl ⟨Nat.le_of_ble_eq_true rfl, Nat.le_of_ble_eq_true rfl⟩ ⟨rfl, rfl⟩ rfl rfl rfl (Nat.le_of_ble_eq_true rfl) dX5_item_10 ?_
    refine r_if_ne (pc := 13) C 18 dX5_item_13 (by decide) (fun c_2 => ?_) (fun c_2 => ?_)
    · skip
      have c_2 := bI_n.mp c_2
      refine r_aload_n (pc := 18) C 0 dX5_item_18 rfl rfl ?_
      refine xg_sheets (pc := 19) C fl_RX5_36 dX5_item_19 ?_
      refine r_iload_n (pc := 22) C 1 dX5_item_22 rfl rfl ?_
      refine xa_sheets (pc := 23) C f (rfl) (by omega) dX5_item_23 ?_
      refine r_astore (pc := 24) C [(4, .ref (h (47 + f))), (0, .ref (h 0)), (1, .int (nI f)), (2, .int x), (3, .int i)] dX5_item_24 (by decide) rfl ?_
      refine r_aload (pc := 26) C 0 dX5_item_26 rfl ?_
      refine xg_s_sort (by omega) (pc := 28) C fl_RX5_193 dX5_item_28 (σ 15 f) rfl ?_
      refine r_iconst (pc := 31) C (-1) dX5_item_31 (by decide) ?_
      refine r_icmp_ne (pc := 32) C 38 dX5_item_32 (by decide) (fun c_3 => ?_) (fun c_3 => ?_)
      · skip
        have hs_ := so_p (hso f (by omega)) c_3
        refine r_aload (pc := 38) C 0 dX5_item_38 rfl ?_
        refine xg_s_sort (by omega) (pc := 40) C fl_RX5_193 dX5_item_40 (σ 15 f) rfl ?_
        refine r_iload_n (pc := 43) C 3 dX5_item_43 rfl rfl ?_
        refine r_icmp_eq (pc := 44) C 50 dX5_item_44 (by decide) (fun c_4 => ?_) (fun c_4 => ?_)
        · skip
          obtain ⟨z, hz1, hz2⟩ := hz f (by omega)
          have e_z : (nI z).toNatClampNeg = z := nI_clamp (by omega)
          refine r_iload_n (pc := 50) C 4 dX5_item_50 rfl rfl ?_
          refine r_iconst (pc := 51) C 0 dX5_item_51 (by decide) ?_
          refine r_aload (pc := 52) C 0 dX5_item_52 rfl ?_
          refine xg_s_size (by omega) (pc := 54) C fl_RX5_222 dX5_item_54 (σ 16 f) rfl ?_
          refine r_eqi (y := nI z) (hz2) ?_
          refine r_iconst (pc := 57) C 1 dX5_item_57 (by decide) ?_
          refine r_isub (pc := 58) C dX5_item_58 ?_
          refine rc_Si (pc := 59) C (t_X5_isWithin l ad D (tysW cs) (wX cs h σ) pre post  i (0 : Int32) ((nI z) - 1) ) ms_X5_isWithin ml_RX5_59 rfl ⟨Nat.le_of_ble_eq_true rfl, Nat.le_of_ble_eq_true rfl⟩ ⟨rfl, rfl⟩ rfl rfl rfl (Nat.le_of_ble_eq_true rfl) dX5_item_59 ?_
          refine r_if_eq (pc := 62) C 76 dX5_item_62 (by decide) (fun c_5 => ?_) (fun c_5 => ?_)
          · skip
            have c_5 := bI_0.mp c_5
            refine r_bipush (pc := 76) C (-12) dX5_item_76 (by decide) ?_
            exact r_iret (pc := 78) C hr hlk dX5_item_78 rfl (by first | rfl | (simp [gateI, gateF, lkF, *]; done) | simp_all [gateI, gateF, lkF]) rfl
          · skip
            have c_5 := bI_n.mp c_5
            obtain ⟨u, h_u, rfl⟩ := rng_pred z (by omega) c_5
            have e_u : (nI u).toNatClampNeg = u := nI_clamp (by omega)
            refine r_aload (pc := 65) C 0 dX5_item_65 rfl ?_
            refine xg_s_items (by omega) (pc := 67) C fl_RX5_223 dX5_item_67 ?_
            refine r_iload_n (pc := 70) C 4 dX5_item_70 rfl rfl ?_
            refine xl_items (pc := 71) C f (by omega) u (rfl) (by omega) dX5_item_71 ((σ 17 (40 * f + u)).toInt64) rfl ?_
            refine r_l2i (pc := 72) C dX5_item_72 ?_
            refine r_eqi (y := σ 17 (40 * f + u)) (i64_32 _) ?_
            refine r_goto (pc := 73) C 78 dX5_item_73 (by decide) ?_
            exact r_iret (pc := 78) C hr hlk dX5_item_78 rfl (by first | rfl | (simp [gateI, gateF, lkF, *]; done) | simp_all [gateI, gateF, lkF]) rfl
        · skip
          refine r_bipush (pc := 47) C (-13) dX5_item_47 (by decide) ?_
          exact r_iret (pc := 49) C hr hlk dX5_item_49 rfl (by first | rfl | (simp [gateI, gateF, lkF, *]; done) | simp_all [gateI, gateF, lkF]) rfl
      · skip
        have hs_ := so_m c_3
        refine r_bipush (pc := 35) C (-11) dX5_item_35 (by decide) ?_
        exact r_iret (pc := 37) C hr hlk dX5_item_37 rfl (by first | rfl | (simp [gateI, gateF, lkF, *]; done) | simp_all [gateI, gateF, lkF]) rfl
    · skip
      have c_2 := bI_0.mp c_2
      refine r_iconst (pc := 16) C (-1) dX5_item_16 (by decide) ?_
      exact r_iret (pc := 17) C hr hlk dX5_item_17 rfl (by first | rfl | (simp [gateI, gateF, lkF, *]; done) | simp_all [gateI, gateF, lkF]) rfl
theorem t_X5_item' (l : Launch) (ad : Nat → Nat) (D : va_G) (cs : Nat → ClassId) (h : Nat → Nat) (σ : Nat → Nat → Int32) (pre post : va_W) (f0_ : Nat → Int32) (e0_ : σ 0 = f0_) (f15_ : Nat → Int32) (e15_ : σ 15 = f15_) (f16_ : Nat → Int32) (e16_ : σ 16 = f16_) (f17_ : Nat → Int32) (e17_ : σ 17 = f17_) (n : Nat) (g x i : Int32) (hN : f0_ 0 = nI n) (hn : n ≤ 8) (hR : rgM n f0_) (hz : ∀ t : Nat, t < 4 → ∃ z : Nat, z ≤ 40 ∧ f16_ t = nI z) (hso : ∀ t : Nat, t < 4 → -1 ≤ (f15_ t).toInt) : CTi l yX5_item cX5_item 5 .int ({ frames := 2, cells := 0, slots := 0, locals := 42 }) ad D (tysW cs) (pre ++ (wX cs h σ ++ post)) [.ref (h 0), .int g, .int x, .int i] (gateI (inB g 0 3 && inB x 0 3) (if lkF (f15_) g.toNatClampNeg x = 0 then gateI (inB i 0 (f16_ g.toNatClampNeg - 1)) (f17_ (40 * g.toNatClampNeg + i.toNatClampNeg)) (-12) else lkF (f15_) g.toNatClampNeg x) (-1)) (pre ++ (wX cs h σ ++ post)) := by
  subst e0_; subst e15_; subst e16_; subst e17_
  exact t_X5_item l ad D cs h σ pre post n g x i hN hn hR hz hso
theorem dX5_minds_0 : decode cX5_minds 0 = .ok (.iload_n 1, 1) := by decide +kernel
theorem dX5_minds_1 : decode cX5_minds 1 = .ok (.invokestatic 190, 3) := by decide +kernel
theorem dX5_minds_4 : decode cX5_minds 4 = .ok (.ifCond .eq 32, 3) := by decide +kernel
theorem dX5_minds_7 : decode cX5_minds 7 = .ok (.aload_n 0, 1) := by decide +kernel
theorem dX5_minds_8 : decode cX5_minds 8 = .ok (.getfield 10, 3) := by decide +kernel
theorem dX5_minds_11 : decode cX5_minds 11 = .ok (.iload_n 3, 1) := by decide +kernel
theorem dX5_minds_12 : decode cX5_minds 12 = .ok (.invokevirtual 116, 3) := by decide +kernel
theorem dX5_minds_15 : decode cX5_minds 15 = .ok (.ifCond .eq 21, 3) := by decide +kernel
theorem dX5_minds_18 : decode cX5_minds 18 = .ok (.iload 4, 2) := by decide +kernel
theorem dX5_minds_20 : decode cX5_minds 20 = .ok (.iconst 0, 1) := by decide +kernel
theorem dX5_minds_21 : decode cX5_minds 21 = .ok (.aload_n 0, 1) := by decide +kernel
theorem dX5_minds_22 : decode cX5_minds 22 = .ok (.getfield 10, 3) := by decide +kernel
theorem dX5_minds_25 : decode cX5_minds 25 = .ok (.getfield 88, 3) := by decide +kernel
theorem dX5_minds_28 : decode cX5_minds 28 = .ok (.iload_n 3, 1) := by decide +kernel
theorem dX5_minds_29 : decode cX5_minds 29 = .ok (.isub, 1) := by decide +kernel
theorem dX5_minds_30 : decode cX5_minds 30 = .ok (.invokestatic 59, 3) := by decide +kernel
theorem dX5_minds_33 : decode cX5_minds 33 = .ok (.ifCond .ne 5, 3) := by decide +kernel
theorem dX5_minds_36 : decode cX5_minds 36 = .ok (.iconst (-1), 1) := by decide +kernel
theorem dX5_minds_37 : decode cX5_minds 37 = .ok (.ireturn, 1) := by decide +kernel
theorem dX5_minds_38 : decode cX5_minds 38 = .ok (.aload_n 0, 1) := by decide +kernel
theorem dX5_minds_39 : decode cX5_minds 39 = .ok (.getfield 36, 3) := by decide +kernel
theorem dX5_minds_42 : decode cX5_minds 42 = .ok (.iload_n 1, 1) := by decide +kernel
theorem dX5_minds_43 : decode cX5_minds 43 = .ok (.aaload, 1) := by decide +kernel
theorem dX5_minds_44 : decode cX5_minds 44 = .ok (.astore 5, 2) := by decide +kernel
theorem dX5_minds_46 : decode cX5_minds 46 = .ok (.aload 5, 2) := by decide +kernel
theorem dX5_minds_48 : decode cX5_minds 48 = .ok (.getfield 193, 3) := by decide +kernel
theorem dX5_minds_51 : decode cX5_minds 51 = .ok (.iconst (-1), 1) := by decide +kernel
theorem dX5_minds_52 : decode cX5_minds 52 = .ok (.if_icmp .ne 6, 3) := by decide +kernel
theorem dX5_minds_55 : decode cX5_minds 55 = .ok (.bipush (-11), 2) := by decide +kernel
theorem dX5_minds_57 : decode cX5_minds 57 = .ok (.ireturn, 1) := by decide +kernel
theorem dX5_minds_58 : decode cX5_minds 58 = .ok (.aload 5, 2) := by decide +kernel
theorem dX5_minds_60 : decode cX5_minds 60 = .ok (.getfield 193, 3) := by decide +kernel
theorem dX5_minds_63 : decode cX5_minds 63 = .ok (.ifCond .eq 6, 3) := by decide +kernel
theorem dX5_minds_66 : decode cX5_minds 66 = .ok (.bipush (-13), 2) := by decide +kernel
theorem dX5_minds_68 : decode cX5_minds 68 = .ok (.ireturn, 1) := by decide +kernel
theorem dX5_minds_69 : decode cX5_minds 69 = .ok (.iload_n 2, 1) := by decide +kernel
theorem dX5_minds_70 : decode cX5_minds 70 = .ok (.iconst 0, 1) := by decide +kernel
theorem dX5_minds_71 : decode cX5_minds 71 = .ok (.aload 5, 2) := by decide +kernel
theorem dX5_minds_73 : decode cX5_minds 73 = .ok (.getfield 222, 3) := by decide +kernel
theorem dX5_minds_76 : decode cX5_minds 76 = .ok (.invokestatic 59, 3) := by decide +kernel
theorem dX5_minds_79 : decode cX5_minds 79 = .ok (.ifCond .eq 15, 3) := by decide +kernel
theorem dX5_minds_82 : decode cX5_minds 82 = .ok (.iload 4, 2) := by decide +kernel
theorem dX5_minds_84 : decode cX5_minds 84 = .ok (.aload 5, 2) := by decide +kernel
theorem dX5_minds_86 : decode cX5_minds 86 = .ok (.getfield 222, 3) := by decide +kernel
theorem dX5_minds_89 : decode cX5_minds 89 = .ok (.iload_n 2, 1) := by decide +kernel
theorem dX5_minds_90 : decode cX5_minds 90 = .ok (.isub, 1) := by decide +kernel
theorem dX5_minds_91 : decode cX5_minds 91 = .ok (.if_icmp .le 6, 3) := by decide +kernel
theorem dX5_minds_94 : decode cX5_minds 94 = .ok (.bipush (-12), 2) := by decide +kernel
theorem dX5_minds_96 : decode cX5_minds 96 = .ok (.ireturn, 1) := by decide +kernel
theorem dX5_minds_97 : decode cX5_minds 97 = .ok (.iconst 0, 1) := by decide +kernel
theorem dX5_minds_98 : decode cX5_minds 98 = .ok (.istore 6, 2) := by decide +kernel
theorem dX5_minds_100 : decode cX5_minds 100 = .ok (.iload 6, 2) := by decide +kernel
theorem dX5_minds_102 : decode cX5_minds 102 = .ok (.iload 4, 2) := by decide +kernel
theorem dX5_minds_104 : decode cX5_minds 104 = .ok (.if_icmp .ge 39, 3) := by decide +kernel
theorem dX5_minds_107 : decode cX5_minds 107 = .ok (.aload_n 0, 1) := by decide +kernel
theorem dX5_minds_108 : decode cX5_minds 108 = .ok (.getfield 10, 3) := by decide +kernel
theorem dX5_minds_111 : decode cX5_minds 111 = .ok (.getfield 113, 3) := by decide +kernel
theorem dX5_minds_114 : decode cX5_minds 114 = .ok (.iconst 3, 1) := by decide +kernel
theorem dX5_minds_115 : decode cX5_minds 115 = .ok (.aaload, 1) := by decide +kernel
theorem dX5_minds_116 : decode cX5_minds 116 = .ok (.iload_n 3, 1) := by decide +kernel
theorem dX5_minds_117 : decode cX5_minds 117 = .ok (.iload 6, 2) := by decide +kernel
theorem dX5_minds_119 : decode cX5_minds 119 = .ok (.iadd, 1) := by decide +kernel
theorem dX5_minds_120 : decode cX5_minds 120 = .ok (.aload 5, 2) := by decide +kernel
theorem dX5_minds_122 : decode cX5_minds 122 = .ok (.getfield 223, 3) := by decide +kernel
theorem dX5_minds_125 : decode cX5_minds 125 = .ok (.iload_n 2, 1) := by decide +kernel
theorem dX5_minds_126 : decode cX5_minds 126 = .ok (.iload 6, 2) := by decide +kernel
theorem dX5_minds_128 : decode cX5_minds 128 = .ok (.iadd, 1) := by decide +kernel
theorem dX5_minds_129 : decode cX5_minds 129 = .ok (.laload, 1) := by decide +kernel
theorem dX5_minds_130 : decode cX5_minds 130 = .ok (.l2i, 1) := by decide +kernel
theorem dX5_minds_131 : decode cX5_minds 131 = .ok (.bipush 99, 2) := by decide +kernel
theorem dX5_minds_133 : decode cX5_minds 133 = .ok (.invokestatic 227, 3) := by decide +kernel
theorem dX5_minds_136 : decode cX5_minds 136 = .ok (.iastore, 1) := by decide +kernel
theorem dX5_minds_137 : decode cX5_minds 137 = .ok (.iinc 6 1, 3) := by decide +kernel
theorem dX5_minds_140 : decode cX5_minds 140 = .ok (.goto (-40), 3) := by decide +kernel
theorem dX5_minds_143 : decode cX5_minds 143 = .ok (.iload 4, 2) := by decide +kernel
theorem dX5_minds_145 : decode cX5_minds 145 = .ok (.ireturn, 1) := by decide +kernel
set_option maxHeartbeats 400000 in
set_option maxRecDepth 20000 in
theorem t_X5_minds (l : Launch) (ad : Nat → Nat) (D : va_G) (cs : Nat → ClassId) (h : Nat → Nat) (σ : Nat → Nat → Int32) (pre post : va_W) (n : Nat) (g i o k : Int32) (hN : σ 0 0 = nI n) (hn : n ≤ 8) (hR : rgM n (σ 0)) (hz : ∀ t : Nat, t < 4 → ∃ z : Nat, z ≤ 40 ∧ σ 16 t = nI z) (hso : ∀ t : Nat, t < 4 → -1 ≤ (σ 15 t).toInt) : CTi l yX5_minds cX5_minds 7 .int ({ frames := 2, cells := 0, slots := 0, locals := 43 }) ad D (tysW cs) (pre ++ (wX cs h σ ++ post)) [.ref (h 0), .int g, .int i, .int o, .int k] (gateI (inB g 0 3 && (oneB n o && (inB k 0 8 && decide (o.toNatClampNeg + k.toNatClampNeg ≤ n)))) (if lkF (σ 15) g.toNatClampNeg 0 = 0 then gateI (inB i 0 (σ 16 g.toNatClampNeg) && decide (i.toNatClampNeg + k.toNatClampNeg ≤ (σ 16 g.toNatClampNeg).toNatClampNeg)) k (-12) else lkF (σ 15) g.toNatClampNeg 0) (-1)) (pre ++ (wX cs h (su σ 0 (gateF ((inB g 0 3 && (oneB n o && (inB k 0 8 && decide (o.toNatClampNeg + k.toNatClampNeg ≤ n)))) && (decide (lkF (σ 15) g.toNatClampNeg 0 = 0) && (inB i 0 (σ 16 g.toNatClampNeg) && decide (i.toNatClampNeg + k.toNatClampNeg ≤ (σ 16 g.toNatClampNeg).toNatClampNeg)))) (mdN (σ 0) (σ 17) o.toNatClampNeg (40 * g.toNatClampNeg + i.toNatClampNeg) k.toNatClampNeg) (σ 0))) ++ post)) := by
  refine CTi.of (lv0 := [(0, .ref (h 0)), (1, .int g), (2, .int i), (3, .int o), (4, .int k)]) (by decide) rfl (Nat.le_of_ble_eq_true rfl) (fun p e s m args below meth c A C hr hlk => ?_)
  have C : Cx p s m args c cX5_minds 7 RX5 ad D (tysW cs) A := C
  refine r_iload_n (pc := 0) C 1 dX5_minds_0 rfl rfl ?_
  refine rc_Si (pc := 1) C (t_X5_isPlace l ad D (tysW cs) (wX cs h σ) pre post  g ) ms_X5_isPlace ml_RX5_190 rfl ⟨Nat.le_of_ble_eq_true rfl, Nat.le_of_ble_eq_true rfl⟩ ⟨rfl, rfl⟩ rfl rfl rfl (Nat.le_of_ble_eq_true rfl) dX5_minds_1 ?_
  refine r_if_eq (pc := 4) C 36 dX5_minds_4 (by decide) (fun c_1 => ?_) (fun c_1 => ?_)
  · skip
    have c_1 := bI_0.mp c_1
    refine r_iconst (pc := 36) C (-1) dX5_minds_36 (by decide) ?_
    exact r_iret (pc := 37) C hr hlk dX5_minds_37 rfl (by first | rfl | (simp [gateI, gateF, lkF, *]; done) | simp_all [gateI, gateF, lkF]) (by rw [show (gateF ((inB g 0 3 && (oneB n o && (inB k 0 8 && decide (o.toNatClampNeg + k.toNatClampNeg ≤ n)))) && (decide (lkF (σ 15) g.toNatClampNeg 0 = 0) && (inB i 0 (σ 16 g.toNatClampNeg) && decide (i.toNatClampNeg + k.toNatClampNeg ≤ (σ 16 g.toNatClampNeg).toNatClampNeg)))) (mdN (σ 0) (σ 17) o.toNatClampNeg (40 * g.toNatClampNeg + i.toNatClampNeg) k.toNatClampNeg) (σ 0) : Nat → Int32) = σ 0 from (by first | rfl | (simp [gateI, gateF, lkF, *]; done) | simp_all [gateI, gateF, lkF])] <;> rfl)
  · skip
    have c_1 := bI_n.mp c_1
    obtain ⟨f, l_f, h_f, rfl⟩ := rng_nat 0 3 (by decide) (by decide) c_1
    have e_f : (nI f).toNatClampNeg = f := nI_clamp (by omega)
    refine r_aload_n (pc := 7) C 0 dX5_minds_7 rfl rfl ?_
    refine xg_now (pc := 8) C fl_RX5_10 dX5_minds_8 ?_
    refine r_iload_n (pc := 11) C 3 dX5_minds_11 rfl rfl ?_
    refine rc_Vi (pc := 12) C (t_X0_exists' l ad D cs (fun j => h (1 + j)) (fun _ => σ 0) (pre ++ xA_0 cs h σ) (xC_0 cs h σ ++ post) (σ 0) rfl n o hN hn) mv_X0_exists ml_RX5_116 rfl ⟨Nat.le_of_ble_eq_true rfl, Nat.le_of_ble_eq_true rfl⟩ ⟨rfl, rfl⟩ (q0 := 0) rfl rfl rfl fx_0 fx_0.symm rfl (Nat.le_of_ble_eq_true rfl) dX5_minds_12 ?_
    refine r_if_eq (pc := 15) C 36 dX5_minds_15 (by decide) (fun c_2 => ?_) (fun c_2 => ?_)
    · skip
      have c_2 := bI_0.mp c_2
      refine r_iconst (pc := 36) C (-1) dX5_minds_36 (by decide) ?_
      exact r_iret (pc := 37) C hr hlk dX5_minds_37 rfl (by first | rfl | (simp [gateI, gateF, lkF, *]; done) | simp_all [gateI, gateF, lkF]) (by rw [show (gateF ((inB (nI f) 0 3 && (oneB n o && (inB k 0 8 && decide (o.toNatClampNeg + k.toNatClampNeg ≤ n)))) && (decide (lkF (σ 15) (nI f).toNatClampNeg 0 = 0) && (inB i 0 (σ 16 (nI f).toNatClampNeg) && decide (i.toNatClampNeg + k.toNatClampNeg ≤ (σ 16 (nI f).toNatClampNeg).toNatClampNeg)))) (mdN (σ 0) (σ 17) o.toNatClampNeg (40 * (nI f).toNatClampNeg + i.toNatClampNeg) k.toNatClampNeg) (σ 0) : Nat → Int32) = σ 0 from (by first | rfl | (simp [gateI, gateF, lkF, *]; done) | simp_all [gateI, gateF, lkF])] <;> rfl)
    · skip
      have c_2 := bI_n.mp c_2
      obtain ⟨j, h_j, rfl⟩ := one_nat (by omega) c_2
      have e_j : (nI j).toNatClampNeg = j := nI_clamp (by omega)
      refine r_iload (pc := 18) C 4 dX5_minds_18 rfl ?_
      refine r_iconst (pc := 20) C 0 dX5_minds_20 (by decide) ?_
      refine r_aload_n (pc := 21) C 0 dX5_minds_21 rfl rfl ?_
      refine xg_now (pc := 22) C fl_RX5_10 dX5_minds_22 ?_
      refine xg_count_0 (pc := 25) C fl_RX5_88 dX5_minds_25 (σ 0 0) rfl ?_
      refine r_eqi (y := nI n) (hN) ?_
      refine r_iload_n (pc := 28) C 3 dX5_minds_28 rfl rfl ?_
      refine r_isub (pc := 29) C dX5_minds_29 ?_
      refine rc_Si (pc := 30) C (t_X5_isWithin l ad D (tysW cs) (wX cs h σ) pre post  k (0 : Int32) ((nI n) - (nI j)) ) ms_X5_isWithin ml_RX5_59 rfl ⟨Nat.le_of_ble_eq_true rfl, Nat.le_of_ble_eq_true rfl⟩ ⟨rfl, rfl⟩ rfl rfl rfl (Nat.le_of_ble_eq_true rfl) dX5_minds_30 ?_
      refine r_eqi (y := bI ((inB k 0 8 && decide (j + k.toNatClampNeg ≤ n)) = true)) (by rw [mi_w (by omega) hn]) ?_
      refine r_if_ne (pc := 33) C 38 dX5_minds_33 (by decide) (fun c_3 => ?_) (fun c_3 => ?_)
      · skip
        have c_3 := bI_n.mp c_3
        obtain ⟨a_4, b_4⟩ := (Bool.and_eq_true _ _).mp c_3
        obtain ⟨t, l_t, h_t, rfl⟩ := rng_nat 0 8 (by decide) (by decide) a_4
        have e_t : (nI t).toNatClampNeg = t := nI_clamp (by omega)
        have b_t := of_decide_eq_true b_4
        rw [e_t] at b_t
        refine r_aload_n (pc := 38) C 0 dX5_minds_38 rfl rfl ?_
        refine xg_sheets (pc := 39) C fl_RX5_36 dX5_minds_39 ?_
        refine r_iload_n (pc := 42) C 1 dX5_minds_42 rfl rfl ?_
        refine xa_sheets (pc := 43) C f (rfl) (by omega) dX5_minds_43 ?_
        refine r_astore (pc := 44) C [(5, .ref (h (47 + f))), (0, .ref (h 0)), (1, .int (nI f)), (2, .int i), (3, .int (nI j)), (4, .int (nI t))] dX5_minds_44 (by decide) rfl ?_
        refine r_aload (pc := 46) C 0 dX5_minds_46 rfl ?_
        refine xg_s_sort (by omega) (pc := 48) C fl_RX5_193 dX5_minds_48 (σ 15 f) rfl ?_
        refine r_iconst (pc := 51) C (-1) dX5_minds_51 (by decide) ?_
        refine r_icmp_ne (pc := 52) C 58 dX5_minds_52 (by decide) (fun c_5 => ?_) (fun c_5 => ?_)
        · skip
          have hs_ := so_p (hso f (by omega)) c_5
          refine r_aload (pc := 58) C 0 dX5_minds_58 rfl ?_
          refine xg_s_sort (by omega) (pc := 60) C fl_RX5_193 dX5_minds_60 (σ 15 f) rfl ?_
          refine r_if_eq (pc := 63) C 69 dX5_minds_63 (by decide) (fun c_6 => ?_) (fun c_6 => ?_)
          · skip
            obtain ⟨z, hz1, hz2⟩ := hz f (by omega)
            have e_z : (nI z).toNatClampNeg = z := nI_clamp (by omega)
            refine r_iload_n (pc := 69) C 3 dX5_minds_69 rfl rfl ?_
            refine r_iconst (pc := 70) C 0 dX5_minds_70 (by decide) ?_
            refine r_aload (pc := 71) C 0 dX5_minds_71 rfl ?_
            refine xg_s_size (by omega) (pc := 73) C fl_RX5_222 dX5_minds_73 (σ 16 f) rfl ?_
            refine r_eqi (y := nI z) (hz2) ?_
            refine rc_Si (pc := 76) C (t_X5_isWithin l ad D (tysW cs) (wX cs h σ) pre post  i (0 : Int32) (nI z) ) ms_X5_isWithin ml_RX5_59 rfl ⟨Nat.le_of_ble_eq_true rfl, Nat.le_of_ble_eq_true rfl⟩ ⟨rfl, rfl⟩ rfl rfl rfl (Nat.le_of_ble_eq_true rfl) dX5_minds_76 ?_
            refine r_if_eq (pc := 79) C 94 dX5_minds_79 (by decide) (fun c_7 => ?_) (fun c_7 => ?_)
            · skip
              have c_7 := bI_0.mp c_7
              refine r_bipush (pc := 94) C (-12) dX5_minds_94 (by decide) ?_
              exact r_iret (pc := 96) C hr hlk dX5_minds_96 rfl (by first | rfl | (simp [gateI, gateF, lkF, *]; done) | simp_all [gateI, gateF, lkF]) (by rw [show (gateF ((inB (nI f) 0 3 && (oneB n (nI j) && (inB (nI t) 0 8 && decide ((nI j).toNatClampNeg + (nI t).toNatClampNeg ≤ n)))) && (decide (lkF (σ 15) (nI f).toNatClampNeg 0 = 0) && (inB i 0 (σ 16 (nI f).toNatClampNeg) && decide (i.toNatClampNeg + (nI t).toNatClampNeg ≤ (σ 16 (nI f).toNatClampNeg).toNatClampNeg)))) (mdN (σ 0) (σ 17) (nI j).toNatClampNeg (40 * (nI f).toNatClampNeg + i.toNatClampNeg) (nI t).toNatClampNeg) (σ 0) : Nat → Int32) = σ 0 from (by first | rfl | (simp [gateI, gateF, lkF, *]; done) | simp_all [gateI, gateF, lkF])] <;> rfl)
            · skip
              have c_7 := bI_n.mp c_7
              obtain ⟨u, l_u, h_u, rfl⟩ := rng_nat 0 z (by omega) (by omega) c_7
              have e_u : (nI u).toNatClampNeg = u := nI_clamp (by omega)
              refine r_iload (pc := 82) C 5 dX5_minds_82 rfl ?_
              refine r_aload (pc := 84) C 0 dX5_minds_84 rfl ?_
              refine xg_s_size (by omega) (pc := 86) C fl_RX5_222 dX5_minds_86 (σ 16 f) rfl ?_
              refine r_eqi (y := nI z) (hz2) ?_
              refine r_iload_n (pc := 89) C 3 dX5_minds_89 rfl rfl ?_
              refine r_isub (pc := 90) C dX5_minds_90 ?_
              refine r_eqi (y := nI (z - u)) (pk_sub (by omega)) ?_
              refine r_icmp_le (pc := 91) C 97 dX5_minds_91 (by decide) (fun c_8 => ?_) (fun c_8 => ?_)
              · skip
                have c_8 := nIc_le_t (a := t) (b := (z - u)) (by omega) (by omega) c_8
                have hx_ : u + t ≤ z := by omega
                refine r_iconst (pc := 97) C 0 dX5_minds_97 (by decide) ?_
                refine r_istore (pc := 98) C [(6, .int 0), (5, .ref (h (47 + f))), (0, .ref (h 0)), (1, .int (nI f)), (2, .int (nI u)), (3, .int (nI j)), (4, .int (nI t))] dX5_minds_98 (by decide) rfl ?_
                refine r_pick (lv' := [(0, .ref (h 0)), (1, .int (nI f)), (2, .int (nI u)), (3, .int (nI j)), (4, .int (nI t)), (5, .ref (h (47 + f))), (6, .int 0)]) [2, 3, 4, 5, 6, 1, 0] rfl ?_
                refine r_blk (blk' := wX cs h (su σ 0 (mdN (σ 0) (σ 17) j (40 * f + u) 0))) (rfl) ?_
                refine r_loop (blkf := fun i_ => wX cs h (su σ 0 (mdN (σ 0) (σ 17) j (40 * f + u) i_))) (lvf := fun i_ => [(0, .ref (h 0)), (1, .int (nI f)), (2, .int (nI u)), (3, .int (nI j)), (4, .int (nI t)), (5, .ref (h (47 + f))), (6, .int (nI i_))]) (fun i_ => True) t 0 (by omega) (trivial) (fun i_ h_i_ _ ih_100 => ?_)
                show VX p l e _ s m args below meth c _ D A 7 pre (wX cs h (su σ 0 (mdN (σ 0) (σ 17) j (40 * f + u) i_))) post 100 [(0, .ref (h 0)), (1, .int (nI f)), (2, .int (nI u)), (3, .int (nI j)), (4, .int (nI t)), (5, .ref (h (47 + f))), (6, .int (nI i_))] []
                refine r_iload (pc := 100) C 6 dX5_minds_100 rfl ?_
                refine r_iload (pc := 102) C 4 dX5_minds_102 rfl ?_
                refine r_icmp_ge (pc := 104) C 143 dX5_minds_104 (by decide) (fun c_9 => ?_) (fun c_9 => ?_)
                · skip
                  have c_9 := nIc_ge_t (a := i_) (b := t) (by omega) (by omega) c_9
                  obtain rfl : t = i_ := by omega
                  refine r_iload (pc := 143) C 4 dX5_minds_143 rfl ?_
                  exact r_iret (pc := 145) C hr hlk dX5_minds_145 rfl (by first | rfl | (simp [gateI, gateF, lkF, *]; done) | simp_all [gateI, gateF, lkF]) (by rw [show (gateF ((inB (nI f) 0 3 && (oneB n (nI j) && (inB (nI t) 0 8 && decide ((nI j).toNatClampNeg + (nI t).toNatClampNeg ≤ n)))) && (decide (lkF (σ 15) (nI f).toNatClampNeg 0 = 0) && (inB (nI u) 0 (σ 16 (nI f).toNatClampNeg) && decide ((nI u).toNatClampNeg + (nI t).toNatClampNeg ≤ (σ 16 (nI f).toNatClampNeg).toNatClampNeg)))) (mdN (σ 0) (σ 17) (nI j).toNatClampNeg (40 * (nI f).toNatClampNeg + (nI u).toNatClampNeg) (nI t).toNatClampNeg) (σ 0) : Nat → Int32) = mdN (σ 0) (σ 17) j (40 * f + u) t from (by first | rfl | (simp [gateI, gateF, lkF, *]; done) | simp_all [gateI, gateF, lkF])] <;> rfl)
                · skip
                  have c_9 := nIc_ge_f (a := i_) (b := t) (by omega) (by omega) c_9
                  refine r_aload_n (pc := 107) C 0 dX5_minds_107 rfl rfl ?_
                  refine xg_now (pc := 108) C fl_RX5_10 dX5_minds_108 ?_
                  refine xg_has_0 (pc := 111) C fl_RX5_113 dX5_minds_111 ?_
                  refine r_iconst (pc := 114) C 3 dX5_minds_114 (by decide) ?_
                  refine xa_has_0 (pc := 115) C 3 (rfl) (by omega) dX5_minds_115 ?_
                  refine r_iload_n (pc := 116) C 3 dX5_minds_116 rfl rfl ?_
                  refine r_iload (pc := 117) C 6 dX5_minds_117 rfl ?_
                  refine r_iadd (pc := 119) C dX5_minds_119 ?_
                  refine r_eqi (y := nI (j + i_)) (nI_add j i_) ?_
                  refine r_aload (pc := 120) C 5 dX5_minds_120 rfl ?_
                  refine xg_s_items (by omega) (pc := 122) C fl_RX5_223 dX5_minds_122 ?_
                  refine r_iload_n (pc := 125) C 2 dX5_minds_125 rfl rfl ?_
                  refine r_iload (pc := 126) C 6 dX5_minds_126 rfl ?_
                  refine r_iadd (pc := 128) C dX5_minds_128 ?_
                  refine r_eqi (y := nI (u + i_)) (nI_add u i_) ?_
                  refine xl_items (pc := 129) C f (by omega) (u + i_) (rfl) (by omega) dX5_minds_129 ((σ 17 (40 * f + (u + i_))).toInt64) (by rw [(su_nn (by decide))]) ?_
                  refine r_l2i (pc := 130) C dX5_minds_130 ?_
                  refine r_eqi (y := σ 17 (40 * f + (u + i_))) (i64_32 _) ?_
                  refine r_bipush (pc := 131) C 99 dX5_minds_131 (by decide) ?_
                  refine rc_Si (pc := 133) C (t_X5_held l ad D (tysW cs) (wX cs h (su σ 0 (mdN (σ 0) (σ 17) j (40 * f + u) i_))) pre post  (σ 17 (40 * f + (u + i_))) (99 : Int32) ) ms_X5_held ml_RX5_227 rfl ⟨Nat.le_of_ble_eq_true rfl, Nat.le_of_ble_eq_true rfl⟩ ⟨rfl, rfl⟩ rfl rfl rfl (Nat.le_of_ble_eq_true rfl) dX5_minds_133 ?_
                  refine r_eqi (y := heldI (σ 17 (40 * f + (u + i_)))) (held_mx _) ?_
                  refine xs_row_0 (pc := 136) C 3 (by decide) (j + i_) (rfl) (by omega) dX5_minds_136 (8 + 5 * (j + i_) + 3) rfl (mdN (σ 0) (σ 17) j (40 * f + u) i_) (su_at) ?_
                  refine r_blk (blk' := wX cs h (su σ 0 (upd (mdN (σ 0) (σ 17) j (40 * f + u) i_) (8 + 5 * (j + i_) + 3) (heldI (σ 17 (40 * f + (u + i_))))))) (congrArg (wX cs h) (by rw [su_su])) ?_
                  refine r_iinc (pc := 137) C (nI (i_ + 1)) 6 [(6, .int (nI (i_ + 1))), (0, .ref (h 0)), (1, .int (nI f)), (2, .int (nI u)), (3, .int (nI j)), (4, .int (nI t)), (5, .ref (h (47 + f)))] dX5_minds_137 rfl (nI_1 _) (by decide) rfl ?_
                  refine r_goto (pc := 140) C 100 dX5_minds_140 (by decide) ?_
                  refine r_pick (lv' := [(0, .ref (h 0)), (1, .int (nI f)), (2, .int (nI u)), (3, .int (nI j)), (4, .int (nI t)), (5, .ref (h (47 + f))), (6, .int (nI (i_ + 1)))]) [1, 2, 3, 4, 5, 6, 0] rfl ?_
                  refine r_blk (blk' := wX cs h (su σ 0 (mdN (σ 0) (σ 17) j (40 * f + u) (i_ + 1)))) (by rw [show (mdN (σ 0) (σ 17) j (40 * f + u) (i_ + 1) : Nat → Int32) = upd (mdN (σ 0) (σ 17) j (40 * f + u) i_) (8 + 5 * (j + i_) + 3) (heldI (σ 17 (40 * f + (u + i_)))) from Eq.symm ((by show _ = upd _ _ (heldI (σ 17 (40 * f + u + i_))); rw [Nat.add_assoc (40 * f) u i_]))] <;> rfl) ?_
                  exact ih_100 (by omega) (trivial)
              · skip
                have c_8 := nIc_le_f (a := t) (b := (z - u)) (by omega) (by omega) c_8
                have hx_ : ¬ u + t ≤ z := by omega
                refine r_bipush (pc := 94) C (-12) dX5_minds_94 (by decide) ?_
                exact r_iret (pc := 96) C hr hlk dX5_minds_96 rfl (by first | rfl | (simp [gateI, gateF, lkF, *]; done) | simp_all [gateI, gateF, lkF]) (by rw [show (gateF ((inB (nI f) 0 3 && (oneB n (nI j) && (inB (nI t) 0 8 && decide ((nI j).toNatClampNeg + (nI t).toNatClampNeg ≤ n)))) && (decide (lkF (σ 15) (nI f).toNatClampNeg 0 = 0) && (inB (nI u) 0 (σ 16 (nI f).toNatClampNeg) && decide ((nI u).toNatClampNeg + (nI t).toNatClampNeg ≤ (σ 16 (nI f).toNatClampNeg).toNatClampNeg)))) (mdN (σ 0) (σ 17) (nI j).toNatClampNeg (40 * (nI f).toNatClampNeg + (nI u).toNatClampNeg) (nI t).toNatClampNeg) (σ 0) : Nat → Int32) = σ 0 from (by first | rfl | (simp [gateI, gateF, lkF, *]; done) | simp_all [gateI, gateF, lkF])] <;> rfl)
          · skip
            refine r_bipush (pc := 66) C (-13) dX5_minds_66 (by decide) ?_
            exact r_iret (pc := 68) C hr hlk dX5_minds_68 rfl (by first | rfl | (simp [gateI, gateF, lkF, *]; done) | simp_all [gateI, gateF, lkF]) (by rw [show (gateF ((inB (nI f) 0 3 && (oneB n (nI j) && (inB (nI t) 0 8 && decide ((nI j).toNatClampNeg + (nI t).toNatClampNeg ≤ n)))) && (decide (lkF (σ 15) (nI f).toNatClampNeg 0 = 0) && (inB i 0 (σ 16 (nI f).toNatClampNeg) && decide (i.toNatClampNeg + (nI t).toNatClampNeg ≤ (σ 16 (nI f).toNatClampNeg).toNatClampNeg)))) (mdN (σ 0) (σ 17) (nI j).toNatClampNeg (40 * (nI f).toNatClampNeg + i.toNatClampNeg) (nI t).toNatClampNeg) (σ 0) : Nat → Int32) = σ 0 from (by first | rfl | (simp [gateI, gateF, lkF, *]; done) | simp_all [gateI, gateF, lkF])] <;> rfl)
        · skip
          have hs_ := so_m c_5
          refine r_bipush (pc := 55) C (-11) dX5_minds_55 (by decide) ?_
          exact r_iret (pc := 57) C hr hlk dX5_minds_57 rfl (by first | rfl | (simp [gateI, gateF, lkF, *]; done) | simp_all [gateI, gateF, lkF]) (by rw [show (gateF ((inB (nI f) 0 3 && (oneB n (nI j) && (inB (nI t) 0 8 && decide ((nI j).toNatClampNeg + (nI t).toNatClampNeg ≤ n)))) && (decide (lkF (σ 15) (nI f).toNatClampNeg 0 = 0) && (inB i 0 (σ 16 (nI f).toNatClampNeg) && decide (i.toNatClampNeg + (nI t).toNatClampNeg ≤ (σ 16 (nI f).toNatClampNeg).toNatClampNeg)))) (mdN (σ 0) (σ 17) (nI j).toNatClampNeg (40 * (nI f).toNatClampNeg + i.toNatClampNeg) (nI t).toNatClampNeg) (σ 0) : Nat → Int32) = σ 0 from (by first | rfl | (simp [gateI, gateF, lkF, *]; done) | simp_all [gateI, gateF, lkF])] <;> rfl)
      · skip
        have c_3 := bI_0.mp c_3
        refine r_iconst (pc := 36) C (-1) dX5_minds_36 (by decide) ?_
        exact r_iret (pc := 37) C hr hlk dX5_minds_37 rfl (by first | rfl | (simp [gateI, gateF, lkF, *]; done) | simp_all [gateI, gateF, lkF]) (by rw [show (gateF ((inB (nI f) 0 3 && (oneB n (nI j) && (inB k 0 8 && decide ((nI j).toNatClampNeg + k.toNatClampNeg ≤ n)))) && (decide (lkF (σ 15) (nI f).toNatClampNeg 0 = 0) && (inB i 0 (σ 16 (nI f).toNatClampNeg) && decide (i.toNatClampNeg + k.toNatClampNeg ≤ (σ 16 (nI f).toNatClampNeg).toNatClampNeg)))) (mdN (σ 0) (σ 17) (nI j).toNatClampNeg (40 * (nI f).toNatClampNeg + i.toNatClampNeg) k.toNatClampNeg) (σ 0) : Nat → Int32) = σ 0 from (by first | rfl | (simp [gateI, gateF, lkF, *]; done) | simp_all [gateI, gateF, lkF])] <;> rfl)
theorem t_X5_minds' (l : Launch) (ad : Nat → Nat) (D : va_G) (cs : Nat → ClassId) (h : Nat → Nat) (σ : Nat → Nat → Int32) (pre post : va_W) (f0_ : Nat → Int32) (e0_ : σ 0 = f0_) (f15_ : Nat → Int32) (e15_ : σ 15 = f15_) (f16_ : Nat → Int32) (e16_ : σ 16 = f16_) (f17_ : Nat → Int32) (e17_ : σ 17 = f17_) (n : Nat) (g i o k : Int32) (hN : f0_ 0 = nI n) (hn : n ≤ 8) (hR : rgM n f0_) (hz : ∀ t : Nat, t < 4 → ∃ z : Nat, z ≤ 40 ∧ f16_ t = nI z) (hso : ∀ t : Nat, t < 4 → -1 ≤ (f15_ t).toInt) : CTi l yX5_minds cX5_minds 7 .int ({ frames := 2, cells := 0, slots := 0, locals := 43 }) ad D (tysW cs) (pre ++ (wX cs h σ ++ post)) [.ref (h 0), .int g, .int i, .int o, .int k] (gateI (inB g 0 3 && (oneB n o && (inB k 0 8 && decide (o.toNatClampNeg + k.toNatClampNeg ≤ n)))) (if lkF (f15_) g.toNatClampNeg 0 = 0 then gateI (inB i 0 (f16_ g.toNatClampNeg) && decide (i.toNatClampNeg + k.toNatClampNeg ≤ (f16_ g.toNatClampNeg).toNatClampNeg)) k (-12) else lkF (f15_) g.toNatClampNeg 0) (-1)) (pre ++ (wX cs h (su σ 0 (gateF ((inB g 0 3 && (oneB n o && (inB k 0 8 && decide (o.toNatClampNeg + k.toNatClampNeg ≤ n)))) && (decide (lkF (f15_) g.toNatClampNeg 0 = 0) && (inB i 0 (f16_ g.toNatClampNeg) && decide (i.toNatClampNeg + k.toNatClampNeg ≤ (f16_ g.toNatClampNeg).toNatClampNeg)))) (mdN f0_ (f17_) o.toNatClampNeg (40 * g.toNatClampNeg + i.toNatClampNeg) k.toNatClampNeg) f0_)) ++ post)) := by
  subst e0_; subst e15_; subst e16_; subst e17_
  exact t_X5_minds l ad D cs h σ pre post n g i o k hN hn hR hz hso
theorem dX2_takePerson_0 : decode cX2_takePerson 0 = .ok (.aload_n 0, 1) := by decide +kernel
theorem dX2_takePerson_1 : decode cX2_takePerson 1 = .ok (.iconst 1, 1) := by decide +kernel
theorem dX2_takePerson_2 : decode cX2_takePerson 2 = .ok (.putfield 9, 3) := by decide +kernel
theorem dX2_takePerson_5 : decode cX2_takePerson 5 = .ok (.aload_n 0, 1) := by decide +kernel
theorem dX2_takePerson_6 : decode cX2_takePerson 6 = .ok (.iload_n 1, 1) := by decide +kernel
theorem dX2_takePerson_7 : decode cX2_takePerson 7 = .ok (.putfield 18, 3) := by decide +kernel
theorem dX2_takePerson_10 : decode cX2_takePerson 10 = .ok (.iconst 1, 1) := by decide +kernel
theorem dX2_takePerson_11 : decode cX2_takePerson 11 = .ok (.ireturn, 1) := by decide +kernel
set_option maxHeartbeats 400000 in
set_option maxRecDepth 20000 in
theorem t_X2_takePerson (l : Launch) (ad : Nat → Nat) (D : va_G) (cs : Nat → ClassId) (h : Nat → Nat) (σ : Nat → Nat → Int32) (pre post : va_W) (w_ : Nat) (k : Int32) (hw_ : w_ < 4) : CTi l yX2_takePerson cX2_takePerson 2 .int ({ frames := 0, cells := 0, slots := 0, locals := 0 }) ad D (tysW cs) (pre ++ (wX cs h σ ++ post)) [.ref (h (56 + w_)), .int k] 1 (pre ++ (wX cs h (su (su σ 18 (upd (σ 18) w_ 1)) 19 (upd (σ 19) w_ k)) ++ post)) := by
  refine CTi.of (lv0 := [(0, .ref (h (56 + w_))), (1, .int k)]) (by decide) rfl (Nat.le_of_ble_eq_true rfl) (fun p e s m args below meth c A C hr hlk => ?_)
  have C : Cx p s m args c cX2_takePerson 2 RX2 ad D (tysW cs) A := C
  refine r_aload_n (pc := 0) C 0 dX2_takePerson_0 rfl rfl ?_
  refine r_iconst (pc := 1) C 1 dX2_takePerson_1 (by decide) ?_
  refine xp_f_holds (by omega) (pc := 2) C fl_RX2_9 dX2_takePerson_2 (σ 18) (rfl) ?_
  refine r_aload_n (pc := 5) C 0 dX2_takePerson_5 rfl rfl ?_
  refine r_iload_n (pc := 6) C 1 dX2_takePerson_6 rfl rfl ?_
  refine xp_f_number (by omega) (pc := 7) C fl_RX2_18 dX2_takePerson_7 (σ 19) ((su_nn (by decide))) ?_
  refine r_iconst (pc := 10) C 1 dX2_takePerson_10 (by decide) ?_
  exact r_iret (pc := 11) C hr hlk dX2_takePerson_11 rfl rfl rfl
theorem t_X2_takePerson' (l : Launch) (ad : Nat → Nat) (D : va_G) (cs : Nat → ClassId) (h : Nat → Nat) (σ : Nat → Nat → Int32) (pre post : va_W) (f18_ : Nat → Int32) (e18_ : σ 18 = f18_) (f19_ : Nat → Int32) (e19_ : σ 19 = f19_) (w_ : Nat) (k : Int32) (hw_ : w_ < 4) : CTi l yX2_takePerson cX2_takePerson 2 .int ({ frames := 0, cells := 0, slots := 0, locals := 0 }) ad D (tysW cs) (pre ++ (wX cs h σ ++ post)) [.ref (h (56 + w_)), .int k] 1 (pre ++ (wX cs h (su (su σ 18 (upd (f18_) w_ 1)) 19 (upd (f19_) w_ k)) ++ post)) := by
  subst e18_; subst e19_
  exact t_X2_takePerson l ad D cs h σ pre post w_ k hw_
theorem dX2_takeNothing_0 : decode cX2_takeNothing 0 = .ok (.aload_n 0, 1) := by decide +kernel
theorem dX2_takeNothing_1 : decode cX2_takeNothing 1 = .ok (.iconst 0, 1) := by decide +kernel
theorem dX2_takeNothing_2 : decode cX2_takeNothing 2 = .ok (.putfield 9, 3) := by decide +kernel
theorem dX2_takeNothing_5 : decode cX2_takeNothing 5 = .ok (.iconst 1, 1) := by decide +kernel
theorem dX2_takeNothing_6 : decode cX2_takeNothing 6 = .ok (.ireturn, 1) := by decide +kernel
set_option maxHeartbeats 400000 in
set_option maxRecDepth 20000 in
theorem t_X2_takeNothing (l : Launch) (ad : Nat → Nat) (D : va_G) (cs : Nat → ClassId) (h : Nat → Nat) (σ : Nat → Nat → Int32) (pre post : va_W) (w_ : Nat) (hw_ : w_ < 4) : CTi l yX2_takeNothing cX2_takeNothing 1 .int ({ frames := 0, cells := 0, slots := 0, locals := 0 }) ad D (tysW cs) (pre ++ (wX cs h σ ++ post)) [.ref (h (56 + w_))] 1 (pre ++ (wX cs h (su σ 18 (upd (σ 18) w_ 0)) ++ post)) := by
  refine CTi.of (lv0 := [(0, .ref (h (56 + w_)))]) (by decide) rfl (Nat.le_of_ble_eq_true rfl) (fun p e s m args below meth c A C hr hlk => ?_)
  have C : Cx p s m args c cX2_takeNothing 1 RX2 ad D (tysW cs) A := C
  refine r_aload_n (pc := 0) C 0 dX2_takeNothing_0 rfl rfl ?_
  refine r_iconst (pc := 1) C 0 dX2_takeNothing_1 (by decide) ?_
  refine xp_f_holds (by omega) (pc := 2) C fl_RX2_9 dX2_takeNothing_2 (σ 18) (rfl) ?_
  refine r_iconst (pc := 5) C 1 dX2_takeNothing_5 (by decide) ?_
  exact r_iret (pc := 6) C hr hlk dX2_takeNothing_6 rfl rfl rfl
theorem t_X2_takeNothing' (l : Launch) (ad : Nat → Nat) (D : va_G) (cs : Nat → ClassId) (h : Nat → Nat) (σ : Nat → Nat → Int32) (pre post : va_W) (f18_ : Nat → Int32) (e18_ : σ 18 = f18_) (w_ : Nat) (hw_ : w_ < 4) : CTi l yX2_takeNothing cX2_takeNothing 1 .int ({ frames := 0, cells := 0, slots := 0, locals := 0 }) ad D (tysW cs) (pre ++ (wX cs h σ ++ post)) [.ref (h (56 + w_))] 1 (pre ++ (wX cs h (su σ 18 (upd (f18_) w_ 0)) ++ post)) := by
  subst e18_
  exact t_X2_takeNothing l ad D cs h σ pre post w_ hw_
theorem dX2_takeRow_0 : decode cX2_takeRow 0 = .ok (.aload_n 0, 1) := by decide +kernel
theorem dX2_takeRow_1 : decode cX2_takeRow 1 = .ok (.aload_n 1, 1) := by decide +kernel
theorem dX2_takeRow_2 : decode cX2_takeRow 2 = .ok (.getfield 21, 3) := by decide +kernel
theorem dX2_takeRow_5 : decode cX2_takeRow 5 = .ok (.iconst (-1), 1) := by decide +kernel
theorem dX2_takeRow_6 : decode cX2_takeRow 6 = .ok (.if_icmp .ne 7, 3) := by decide +kernel
theorem dX2_takeRow_9 : decode cX2_takeRow 9 = .ok (.iconst 0, 1) := by decide +kernel
theorem dX2_takeRow_10 : decode cX2_takeRow 10 = .ok (.goto 4, 3) := by decide +kernel
theorem dX2_takeRow_13 : decode cX2_takeRow 13 = .ok (.iconst 2, 1) := by decide +kernel
theorem dX2_takeRow_14 : decode cX2_takeRow 14 = .ok (.putfield 9, 3) := by decide +kernel
theorem dX2_takeRow_17 : decode cX2_takeRow 17 = .ok (.aload_n 0, 1) := by decide +kernel
theorem dX2_takeRow_18 : decode cX2_takeRow 18 = .ok (.aload_n 1, 1) := by decide +kernel
theorem dX2_takeRow_19 : decode cX2_takeRow 19 = .ok (.getfield 21, 3) := by decide +kernel
theorem dX2_takeRow_22 : decode cX2_takeRow 22 = .ok (.putfield 15, 3) := by decide +kernel
theorem dX2_takeRow_25 : decode cX2_takeRow 25 = .ok (.aload_n 0, 1) := by decide +kernel
theorem dX2_takeRow_26 : decode cX2_takeRow 26 = .ok (.aload_n 1, 1) := by decide +kernel
theorem dX2_takeRow_27 : decode cX2_takeRow 27 = .ok (.getfield 24, 3) := by decide +kernel
theorem dX2_takeRow_30 : decode cX2_takeRow 30 = .ok (.putfield 18, 3) := by decide +kernel
theorem dX2_takeRow_33 : decode cX2_takeRow 33 = .ok (.iconst 1, 1) := by decide +kernel
theorem dX2_takeRow_34 : decode cX2_takeRow 34 = .ok (.ireturn, 1) := by decide +kernel
set_option maxHeartbeats 400000 in
set_option maxRecDepth 20000 in
theorem t_X2_takeRow (l : Launch) (ad : Nat → Nat) (D : va_G) (cs : Nat → ClassId) (h : Nat → Nat) (σ : Nat → Nat → Int32) (pre post : va_W) (w_ g : Nat) (hw_ : w_ < 4) (hg : g < 4) : CTi l yX2_takeRow cX2_takeRow 2 .int ({ frames := 0, cells := 0, slots := 0, locals := 0 }) ad D (tysW cs) (pre ++ (wX cs h σ ++ post)) [.ref (h (56 + w_)), .ref (h (47 + g))] 1 (pre ++ (wX cs h (su (su (su σ 18 (upd (σ 18) w_ (if σ 15 g = -1 then 0 else 2))) 19 (upd (σ 19) w_ (σ 16 g))) 20 (upd (σ 20) w_ (σ 15 g))) ++ post)) := by
  refine CTi.of (lv0 := [(0, .ref (h (56 + w_))), (1, .ref (h (47 + g)))]) (by decide) rfl (Nat.le_of_ble_eq_true rfl) (fun p e s m args below meth c A C hr hlk => ?_)
  have C : Cx p s m args c cX2_takeRow 2 RX2 ad D (tysW cs) A := C
  refine r_aload_n (pc := 0) C 0 dX2_takeRow_0 rfl rfl ?_
  refine r_aload_n (pc := 1) C 1 dX2_takeRow_1 rfl rfl ?_
  refine xg_s_sort (by omega) (pc := 2) C fl_RX2_21 dX2_takeRow_2 (σ 15 g) rfl ?_
  refine r_iconst (pc := 5) C (-1) dX2_takeRow_5 (by decide) ?_
  refine r_icmp_ne (pc := 6) C 13 dX2_takeRow_6 (by decide) (fun c_1 => ?_) (fun c_1 => ?_)
  · skip
    refine r_iconst (pc := 13) C 2 dX2_takeRow_13 (by decide) ?_
    refine xp_f_holds (by omega) (pc := 14) C fl_RX2_9 dX2_takeRow_14 (σ 18) (rfl) ?_
    refine r_aload_n (pc := 17) C 0 dX2_takeRow_17 rfl rfl ?_
    refine r_aload_n (pc := 18) C 1 dX2_takeRow_18 rfl rfl ?_
    refine xg_s_sort (by omega) (pc := 19) C fl_RX2_21 dX2_takeRow_19 (σ 15 g) (congrFun ((su_nn (by decide))) g) ?_
    refine xp_f_sort (by omega) (pc := 22) C fl_RX2_15 dX2_takeRow_22 (σ 20) ((su_nn (by decide))) ?_
    refine r_aload_n (pc := 25) C 0 dX2_takeRow_25 rfl rfl ?_
    refine r_aload_n (pc := 26) C 1 dX2_takeRow_26 rfl rfl ?_
    refine xg_s_size (by omega) (pc := 27) C fl_RX2_24 dX2_takeRow_27 (σ 16 g) (congrFun (((su_nn (by decide)).trans (su_nn (by decide)))) g) ?_
    refine xp_f_number (by omega) (pc := 30) C fl_RX2_18 dX2_takeRow_30 (σ 19) (((su_nn (by decide)).trans (su_nn (by decide)))) ?_
    refine r_blk (blk' := wX cs h (su (su (su σ 18 (upd (σ 18) w_ 2)) 19 (upd (σ 19) w_ (σ 16 g))) 20 (upd (σ 20) w_ (σ 15 g)))) (congrArg (wX cs h) (by rw [su_cm (k := 20) (j := 19) (by decide)])) ?_
    refine r_iconst (pc := 33) C 1 dX2_takeRow_33 (by decide) ?_
    exact r_iret (pc := 34) C hr hlk dX2_takeRow_34 rfl rfl (by first | rw [if_pos ‹_›] | rw [if_neg ‹_›])
  · skip
    refine r_iconst (pc := 9) C 0 dX2_takeRow_9 (by decide) ?_
    refine r_goto (pc := 10) C 14 dX2_takeRow_10 (by decide) ?_
    refine xp_f_holds (by omega) (pc := 14) C fl_RX2_9 dX2_takeRow_14 (σ 18) (rfl) ?_
    refine r_aload_n (pc := 17) C 0 dX2_takeRow_17 rfl rfl ?_
    refine r_aload_n (pc := 18) C 1 dX2_takeRow_18 rfl rfl ?_
    refine xg_s_sort (by omega) (pc := 19) C fl_RX2_21 dX2_takeRow_19 (σ 15 g) (congrFun ((su_nn (by decide))) g) ?_
    refine xp_f_sort (by omega) (pc := 22) C fl_RX2_15 dX2_takeRow_22 (σ 20) ((su_nn (by decide))) ?_
    refine r_aload_n (pc := 25) C 0 dX2_takeRow_25 rfl rfl ?_
    refine r_aload_n (pc := 26) C 1 dX2_takeRow_26 rfl rfl ?_
    refine xg_s_size (by omega) (pc := 27) C fl_RX2_24 dX2_takeRow_27 (σ 16 g) (congrFun (((su_nn (by decide)).trans (su_nn (by decide)))) g) ?_
    refine xp_f_number (by omega) (pc := 30) C fl_RX2_18 dX2_takeRow_30 (σ 19) (((su_nn (by decide)).trans (su_nn (by decide)))) ?_
    refine r_blk (blk' := wX cs h (su (su (su σ 18 (upd (σ 18) w_ 0)) 19 (upd (σ 19) w_ (σ 16 g))) 20 (upd (σ 20) w_ (σ 15 g)))) (congrArg (wX cs h) (by rw [su_cm (k := 20) (j := 19) (by decide)])) ?_
    refine r_iconst (pc := 33) C 1 dX2_takeRow_33 (by decide) ?_
    exact r_iret (pc := 34) C hr hlk dX2_takeRow_34 rfl rfl (by first | rw [if_pos ‹_›] | rw [if_neg ‹_›])
theorem t_X2_takeRow' (l : Launch) (ad : Nat → Nat) (D : va_G) (cs : Nat → ClassId) (h : Nat → Nat) (σ : Nat → Nat → Int32) (pre post : va_W) (f15_ : Nat → Int32) (e15_ : σ 15 = f15_) (f16_ : Nat → Int32) (e16_ : σ 16 = f16_) (f18_ : Nat → Int32) (e18_ : σ 18 = f18_) (f19_ : Nat → Int32) (e19_ : σ 19 = f19_) (f20_ : Nat → Int32) (e20_ : σ 20 = f20_) (w_ g : Nat) (hw_ : w_ < 4) (hg : g < 4) : CTi l yX2_takeRow cX2_takeRow 2 .int ({ frames := 0, cells := 0, slots := 0, locals := 0 }) ad D (tysW cs) (pre ++ (wX cs h σ ++ post)) [.ref (h (56 + w_)), .ref (h (47 + g))] 1 (pre ++ (wX cs h (su (su (su σ 18 (upd (f18_) w_ (if f15_ g = -1 then 0 else 2))) 19 (upd (f19_) w_ (f16_ g))) 20 (upd (f20_) w_ (f15_ g))) ++ post)) := by
  subst e15_; subst e16_; subst e18_; subst e19_; subst e20_
  exact t_X2_takeRow l ad D cs h σ pre post w_ g hw_ hg
theorem dX5_shelf_0 : decode cX5_shelf 0 = .ok (.iload_n 1, 1) := by decide +kernel
theorem dX5_shelf_1 : decode cX5_shelf 1 = .ok (.invokestatic 190, 3) := by decide +kernel
theorem dX5_shelf_4 : decode cX5_shelf 4 = .ok (.ifCond .ne 5, 3) := by decide +kernel
theorem dX5_shelf_7 : decode cX5_shelf 7 = .ok (.iconst (-1), 1) := by decide +kernel
theorem dX5_shelf_8 : decode cX5_shelf 8 = .ok (.ireturn, 1) := by decide +kernel
theorem dX5_shelf_9 : decode cX5_shelf 9 = .ok (.iload_n 2, 1) := by decide +kernel
theorem dX5_shelf_10 : decode cX5_shelf 10 = .ok (.tableswitch 89 0 2 #[26, 52, 79], 26) := by decide +kernel
theorem dX5_shelf_36 : decode cX5_shelf 36 = .ok (.aload_n 0, 1) := by decide +kernel
theorem dX5_shelf_37 : decode cX5_shelf 37 = .ok (.getfield 10, 3) := by decide +kernel
theorem dX5_shelf_40 : decode cX5_shelf 40 = .ok (.iload_n 3, 1) := by decide +kernel
theorem dX5_shelf_41 : decode cX5_shelf 41 = .ok (.invokevirtual 116, 3) := by decide +kernel
theorem dX5_shelf_44 : decode cX5_shelf 44 = .ok (.ifCond .eq 16, 3) := by decide +kernel
theorem dX5_shelf_47 : decode cX5_shelf 47 = .ok (.aload_n 0, 1) := by decide +kernel
theorem dX5_shelf_48 : decode cX5_shelf 48 = .ok (.getfield 42, 3) := by decide +kernel
theorem dX5_shelf_51 : decode cX5_shelf 51 = .ok (.iload_n 1, 1) := by decide +kernel
theorem dX5_shelf_52 : decode cX5_shelf 52 = .ok (.aaload, 1) := by decide +kernel
theorem dX5_shelf_53 : decode cX5_shelf 53 = .ok (.iload_n 3, 1) := by decide +kernel
theorem dX5_shelf_54 : decode cX5_shelf 54 = .ok (.invokevirtual 236, 3) := by decide +kernel
theorem dX5_shelf_57 : decode cX5_shelf 57 = .ok (.goto 4, 3) := by decide +kernel
theorem dX5_shelf_60 : decode cX5_shelf 60 = .ok (.iconst (-1), 1) := by decide +kernel
theorem dX5_shelf_61 : decode cX5_shelf 61 = .ok (.ireturn, 1) := by decide +kernel
theorem dX5_shelf_62 : decode cX5_shelf 62 = .ok (.iload_n 3, 1) := by decide +kernel
theorem dX5_shelf_63 : decode cX5_shelf 63 = .ok (.invokestatic 190, 3) := by decide +kernel
theorem dX5_shelf_66 : decode cX5_shelf 66 = .ok (.ifCond .eq 21, 3) := by decide +kernel
theorem dX5_shelf_69 : decode cX5_shelf 69 = .ok (.aload_n 0, 1) := by decide +kernel
theorem dX5_shelf_70 : decode cX5_shelf 70 = .ok (.getfield 42, 3) := by decide +kernel
theorem dX5_shelf_73 : decode cX5_shelf 73 = .ok (.iload_n 1, 1) := by decide +kernel
theorem dX5_shelf_74 : decode cX5_shelf 74 = .ok (.aaload, 1) := by decide +kernel
theorem dX5_shelf_75 : decode cX5_shelf 75 = .ok (.aload_n 0, 1) := by decide +kernel
theorem dX5_shelf_76 : decode cX5_shelf 76 = .ok (.getfield 36, 3) := by decide +kernel
theorem dX5_shelf_79 : decode cX5_shelf 79 = .ok (.iload_n 3, 1) := by decide +kernel
theorem dX5_shelf_80 : decode cX5_shelf 80 = .ok (.aaload, 1) := by decide +kernel
theorem dX5_shelf_81 : decode cX5_shelf 81 = .ok (.invokevirtual 239, 3) := by decide +kernel
theorem dX5_shelf_84 : decode cX5_shelf 84 = .ok (.goto 4, 3) := by decide +kernel
theorem dX5_shelf_87 : decode cX5_shelf 87 = .ok (.iconst (-1), 1) := by decide +kernel
theorem dX5_shelf_88 : decode cX5_shelf 88 = .ok (.ireturn, 1) := by decide +kernel
theorem dX5_shelf_89 : decode cX5_shelf 89 = .ok (.aload_n 0, 1) := by decide +kernel
theorem dX5_shelf_90 : decode cX5_shelf 90 = .ok (.getfield 42, 3) := by decide +kernel
theorem dX5_shelf_93 : decode cX5_shelf 93 = .ok (.iload_n 1, 1) := by decide +kernel
theorem dX5_shelf_94 : decode cX5_shelf 94 = .ok (.aaload, 1) := by decide +kernel
theorem dX5_shelf_95 : decode cX5_shelf 95 = .ok (.invokevirtual 243, 3) := by decide +kernel
theorem dX5_shelf_98 : decode cX5_shelf 98 = .ok (.ireturn, 1) := by decide +kernel
theorem dX5_shelf_99 : decode cX5_shelf 99 = .ok (.iconst (-1), 1) := by decide +kernel
theorem dX5_shelf_100 : decode cX5_shelf 100 = .ok (.ireturn, 1) := by decide +kernel
set_option maxHeartbeats 400000 in
set_option maxRecDepth 20000 in
theorem t_X5_shelf (l : Launch) (ad : Nat → Nat) (D : va_G) (cs : Nat → ClassId) (h : Nat → Nat) (σ : Nat → Nat → Int32) (pre post : va_W) (n : Nat) (g w k : Int32) (hN : σ 0 0 = nI n) (hn : n ≤ 8) (hR : rgM n (σ 0)) (hso : ∀ t : Nat, t < 4 → -1 ≤ (σ 15 t).toInt) : CTi l yX5_shelf cX5_shelf 4 .int ({ frames := 2, cells := 0, slots := 0, locals := 43 }) ad D (tysW cs) (pre ++ (wX cs h σ ++ post)) [.ref (h 0), .int g, .int w, .int k] (gateI (shlB n g w k) 1 (-1)) (pre ++ (wX cs h (su (su (su σ 18 (gateF (shlB n g w k) (upd (σ 18) g.toNatClampNeg (if w = 0 then 1 else if shlR (σ 15) w k = true then 2 else 0)) (σ 18))) 19 (gateF (shlB n g w k) (if w = 0 then upd (σ 19) g.toNatClampNeg k else if w = 1 then upd (σ 19) g.toNatClampNeg (σ 16 k.toNatClampNeg) else σ 19) (σ 19))) 20 (gateF (shlB n g w k) (if w = 1 then upd (σ 20) g.toNatClampNeg (σ 15 k.toNatClampNeg) else σ 20) (σ 20))) ++ post)) := by
  refine CTi.of (lv0 := [(0, .ref (h 0)), (1, .int g), (2, .int w), (3, .int k)]) (by decide) rfl (Nat.le_of_ble_eq_true rfl) (fun p e s m args below meth c A C hr hlk => ?_)
  have C : Cx p s m args c cX5_shelf 4 RX5 ad D (tysW cs) A := C
  refine r_iload_n (pc := 0) C 1 dX5_shelf_0 rfl rfl ?_
  refine rc_Si (pc := 1) C (t_X5_isPlace l ad D (tysW cs) (wX cs h σ) pre post  g ) ms_X5_isPlace ml_RX5_190 rfl ⟨Nat.le_of_ble_eq_true rfl, Nat.le_of_ble_eq_true rfl⟩ ⟨rfl, rfl⟩ rfl rfl rfl (Nat.le_of_ble_eq_true rfl) dX5_shelf_1 ?_
  refine r_if_ne (pc := 4) C 9 dX5_shelf_4 (by decide) (fun c_1 => ?_) (fun c_1 => ?_)
  · skip
    have c_1 := bI_n.mp c_1
    obtain ⟨f, l_f, h_f, rfl⟩ := rng_nat 0 3 (by decide) (by decide) c_1
    have e_f : (nI f).toNatClampNeg = f := nI_clamp (by omega)
    refine r_iload_n (pc := 9) C 2 dX5_shelf_9 rfl rfl ?_
    have w_2 := sw_cases w 0 2 (by decide)
    rcases w_2 with w_2 | w_2
    · skip
      refine r_tableOut (pc := 10) C 26 99 dX5_shelf_10 w_2 (by decide) ?_
      have w_2_0 : ¬ w = 0 := fun q => by rw [q] at w_2; revert w_2; decide
      have w_2_1 : ¬ w = 1 := fun q => by rw [q] at w_2; revert w_2; decide
      have w_2_2 : ¬ w = 2 := fun q => by rw [q] at w_2; revert w_2; decide
      have hio : inB w 0 2 = false := in_out w_2
      refine r_iconst (pc := 99) C (-1) dX5_shelf_99 (by decide) ?_
      exact r_iret (pc := 100) C hr hlk dX5_shelf_100 rfl (by first | rfl | (simp [gateI, gateF, shlB, *]; done) | simp_all [gateI, gateF, shlB]) (by rw [show (gateF (shlB n (nI f) w k) (upd (σ 18) (nI f).toNatClampNeg (if w = 0 then 1 else if shlR (σ 15) w k = true then 2 else 0)) (σ 18) : Nat → Int32) = σ 18 from (by first | rfl | (simp [gateI, gateF, shlB, *]; done) | simp_all [gateI, gateF, shlB]), show (gateF (shlB n (nI f) w k) (if w = 0 then upd (σ 19) (nI f).toNatClampNeg k else if w = 1 then upd (σ 19) (nI f).toNatClampNeg (σ 16 k.toNatClampNeg) else σ 19) (σ 19) : Nat → Int32) = σ 19 from (by first | rfl | (simp [gateI, gateF, shlB, *]; done) | simp_all [gateI, gateF, shlB]), show (gateF (shlB n (nI f) w k) (if w = 1 then upd (σ 20) (nI f).toNatClampNeg (σ 15 k.toNatClampNeg) else σ 20) (σ 20) : Nat → Int32) = σ 20 from (by first | rfl | (simp [gateI, gateF, shlB, *]; done) | simp_all [gateI, gateF, shlB])] <;> rfl)
    · obtain ⟨i_2, hi_2, w_2⟩ := w_2
      have hc_2 : i_2 = 0 ∨ i_2 = 1 ∨ i_2 = 2 := by omega
      rcases hc_2 with rfl | rfl | rfl
      · skip
        refine r_tableIn (pc := 10) C 26 36 dX5_shelf_10 (by rw [w_2]; decide) (by rw [w_2]; decide) (by rw [w_2]; rfl) (by decide) ?_
        have w_2 : w = 0 := Int32.toInt_inj.mp (by rw [w_2]; rfl)
        have hio : inB w 0 2 = true := by rw [w_2]; decide
        refine r_aload_n (pc := 36) C 0 dX5_shelf_36 rfl rfl ?_
        refine xg_now (pc := 37) C fl_RX5_10 dX5_shelf_37 ?_
        refine r_iload_n (pc := 40) C 3 dX5_shelf_40 rfl rfl ?_
        refine rc_Vi (pc := 41) C (t_X0_exists' l ad D cs (fun j => h (1 + j)) (fun _ => σ 0) (pre ++ xA_0 cs h σ) (xC_0 cs h σ ++ post) (σ 0) rfl n k hN hn) mv_X0_exists ml_RX5_116 rfl ⟨Nat.le_of_ble_eq_true rfl, Nat.le_of_ble_eq_true rfl⟩ ⟨rfl, rfl⟩ (q0 := 0) rfl rfl rfl fx_0 fx_0.symm rfl (Nat.le_of_ble_eq_true rfl) dX5_shelf_41 ?_
        refine r_if_eq (pc := 44) C 60 dX5_shelf_44 (by decide) (fun c_3 => ?_) (fun c_3 => ?_)
        · skip
          have c_3 := bI_0.mp c_3
          refine r_iconst (pc := 60) C (-1) dX5_shelf_60 (by decide) ?_
          exact r_iret (pc := 61) C hr hlk dX5_shelf_61 rfl (by first | rfl | (simp [gateI, gateF, shlB, *]; done) | simp_all [gateI, gateF, shlB]) (by rw [show (gateF (shlB n (nI f) w k) (upd (σ 18) (nI f).toNatClampNeg (if w = 0 then 1 else if shlR (σ 15) w k = true then 2 else 0)) (σ 18) : Nat → Int32) = σ 18 from (by first | rfl | (simp [gateI, gateF, shlB, *]; done) | simp_all [gateI, gateF, shlB]), show (gateF (shlB n (nI f) w k) (if w = 0 then upd (σ 19) (nI f).toNatClampNeg k else if w = 1 then upd (σ 19) (nI f).toNatClampNeg (σ 16 k.toNatClampNeg) else σ 19) (σ 19) : Nat → Int32) = σ 19 from (by first | rfl | (simp [gateI, gateF, shlB, *]; done) | simp_all [gateI, gateF, shlB]), show (gateF (shlB n (nI f) w k) (if w = 1 then upd (σ 20) (nI f).toNatClampNeg (σ 15 k.toNatClampNeg) else σ 20) (σ 20) : Nat → Int32) = σ 20 from (by first | rfl | (simp [gateI, gateF, shlB, *]; done) | simp_all [gateI, gateF, shlB])] <;> rfl)
        · skip
          have c_3 := bI_n.mp c_3
          obtain ⟨t, h_t, rfl⟩ := one_nat (by omega) c_3
          have e_t : (nI t).toNatClampNeg = t := nI_clamp (by omega)
          refine r_aload_n (pc := 47) C 0 dX5_shelf_47 rfl rfl ?_
          refine xg_shelves (pc := 48) C fl_RX5_42 dX5_shelf_48 ?_
          refine r_iload_n (pc := 51) C 1 dX5_shelf_51 rfl rfl ?_
          refine xa_shelves (pc := 52) C f (rfl) (by omega) dX5_shelf_52 ?_
          refine r_iload_n (pc := 53) C 3 dX5_shelf_53 rfl rfl ?_
          refine rc_Vi (pc := 54) C (t_X2_takePerson' l ad D cs h σ pre post (σ 18) (rfl) (σ 19) (rfl) f (nI t) (by omega)) mv_X2_takePerson ml_RX5_236 rfl ⟨Nat.le_of_ble_eq_true rfl, Nat.le_of_ble_eq_true rfl⟩ ⟨rfl, rfl⟩ (q0 := 56 + f) (wX_shelf (by omega)) rfl rfl rfl rfl rfl (Nat.le_of_ble_eq_true rfl) dX5_shelf_54 ?_
          refine r_goto (pc := 57) C 61 dX5_shelf_57 (by decide) ?_
          exact r_iret (pc := 61) C hr hlk dX5_shelf_61 rfl (by first | rfl | (simp [gateI, gateF, shlB, *]; done) | simp_all [gateI, gateF, shlB]) (by rw [show (gateF (shlB n (nI f) w (nI t)) (upd (σ 18) (nI f).toNatClampNeg (if w = 0 then 1 else if shlR (σ 15) w (nI t) = true then 2 else 0)) (σ 18) : Nat → Int32) = upd (σ 18) f 1 from (by first | rfl | (simp [gateI, gateF, shlB, *]; done) | simp_all [gateI, gateF, shlB]), show (gateF (shlB n (nI f) w (nI t)) (if w = 0 then upd (σ 19) (nI f).toNatClampNeg (nI t) else if w = 1 then upd (σ 19) (nI f).toNatClampNeg (σ 16 (nI t).toNatClampNeg) else σ 19) (σ 19) : Nat → Int32) = upd (σ 19) f (nI t) from (by first | rfl | (simp [gateI, gateF, shlB, *]; done) | simp_all [gateI, gateF, shlB]), show (gateF (shlB n (nI f) w (nI t)) (if w = 1 then upd (σ 20) (nI f).toNatClampNeg (σ 15 (nI t).toNatClampNeg) else σ 20) (σ 20) : Nat → Int32) = σ 20 from (by first | rfl | (simp [gateI, gateF, shlB, *]; done) | simp_all [gateI, gateF, shlB])] <;> rfl)
      · skip
        refine r_tableIn (pc := 10) C 26 62 dX5_shelf_10 (by rw [w_2]; decide) (by rw [w_2]; decide) (by rw [w_2]; rfl) (by decide) ?_
        have w_2 : w = 1 := Int32.toInt_inj.mp (by rw [w_2]; rfl)
        have hio : inB w 0 2 = true := by rw [w_2]; decide
        refine r_iload_n (pc := 62) C 3 dX5_shelf_62 rfl rfl ?_
        refine rc_Si (pc := 63) C (t_X5_isPlace l ad D (tysW cs) (wX cs h σ) pre post  k ) ms_X5_isPlace ml_RX5_190 rfl ⟨Nat.le_of_ble_eq_true rfl, Nat.le_of_ble_eq_true rfl⟩ ⟨rfl, rfl⟩ rfl rfl rfl (Nat.le_of_ble_eq_true rfl) dX5_shelf_63 ?_
        refine r_if_eq (pc := 66) C 87 dX5_shelf_66 (by decide) (fun c_4 => ?_) (fun c_4 => ?_)
        · skip
          have c_4 := bI_0.mp c_4
          refine r_iconst (pc := 87) C (-1) dX5_shelf_87 (by decide) ?_
          exact r_iret (pc := 88) C hr hlk dX5_shelf_88 rfl (by first | rfl | (simp [gateI, gateF, shlB, *]; done) | simp_all [gateI, gateF, shlB]) (by rw [show (gateF (shlB n (nI f) w k) (upd (σ 18) (nI f).toNatClampNeg (if w = 0 then 1 else if shlR (σ 15) w k = true then 2 else 0)) (σ 18) : Nat → Int32) = σ 18 from (by first | rfl | (simp [gateI, gateF, shlB, *]; done) | simp_all [gateI, gateF, shlB]), show (gateF (shlB n (nI f) w k) (if w = 0 then upd (σ 19) (nI f).toNatClampNeg k else if w = 1 then upd (σ 19) (nI f).toNatClampNeg (σ 16 k.toNatClampNeg) else σ 19) (σ 19) : Nat → Int32) = σ 19 from (by first | rfl | (simp [gateI, gateF, shlB, *]; done) | simp_all [gateI, gateF, shlB]), show (gateF (shlB n (nI f) w k) (if w = 1 then upd (σ 20) (nI f).toNatClampNeg (σ 15 k.toNatClampNeg) else σ 20) (σ 20) : Nat → Int32) = σ 20 from (by first | rfl | (simp [gateI, gateF, shlB, *]; done) | simp_all [gateI, gateF, shlB])] <;> rfl)
        · skip
          have c_4 := bI_n.mp c_4
          obtain ⟨t, l_t, h_t, rfl⟩ := rng_nat 0 3 (by decide) (by decide) c_4
          have e_t : (nI t).toNatClampNeg = t := nI_clamp (by omega)
          refine r_aload_n (pc := 69) C 0 dX5_shelf_69 rfl rfl ?_
          refine xg_shelves (pc := 70) C fl_RX5_42 dX5_shelf_70 ?_
          refine r_iload_n (pc := 73) C 1 dX5_shelf_73 rfl rfl ?_
          refine xa_shelves (pc := 74) C f (rfl) (by omega) dX5_shelf_74 ?_
          refine r_aload_n (pc := 75) C 0 dX5_shelf_75 rfl rfl ?_
          refine xg_sheets (pc := 76) C fl_RX5_36 dX5_shelf_76 ?_
          refine r_iload_n (pc := 79) C 3 dX5_shelf_79 rfl rfl ?_
          refine xa_sheets (pc := 80) C t (rfl) (by omega) dX5_shelf_80 ?_
          refine rc_Vi (pc := 81) C (t_X2_takeRow' l ad D cs h σ pre post (σ 15) (rfl) (σ 16) (rfl) (σ 18) (rfl) (σ 19) (rfl) (σ 20) (rfl) f t (by omega) (by omega)) mv_X2_takeRow ml_RX5_239 rfl ⟨Nat.le_of_ble_eq_true rfl, Nat.le_of_ble_eq_true rfl⟩ ⟨rfl, rfl⟩ (q0 := 56 + f) (wX_shelf (by omega)) rfl rfl rfl rfl rfl (Nat.le_of_ble_eq_true rfl) dX5_shelf_81 ?_
          refine r_blk (blk' := wX cs h (su (su (su σ 18 (upd (σ 18) f (if shlR (σ 15) w (nI t) = true then 2 else 0))) 19 (upd (σ 19) f (σ 16 t))) 20 (upd (σ 20) f (σ 15 t)))) (by rw [show (upd (σ 18) f (if shlR (σ 15) w (nI t) = true then 2 else 0) : Nat → Int32) = upd (σ 18) f (if σ 15 t = -1 then 0 else 2) from Eq.symm (by rw [sh_r ‹_› (hso t (by omega)) e_t])] <;> rfl) ?_
          refine r_goto (pc := 84) C 88 dX5_shelf_84 (by decide) ?_
          exact r_iret (pc := 88) C hr hlk dX5_shelf_88 rfl (by first | rfl | (simp [gateI, gateF, shlB, *]; done) | simp_all [gateI, gateF, shlB]) (by rw [show (gateF (shlB n (nI f) w (nI t)) (upd (σ 18) (nI f).toNatClampNeg (if w = 0 then 1 else if shlR (σ 15) w (nI t) = true then 2 else 0)) (σ 18) : Nat → Int32) = upd (σ 18) f (if shlR (σ 15) w (nI t) = true then 2 else 0) from (by first | rfl | (simp [gateI, gateF, shlB, *]; done) | simp_all [gateI, gateF, shlB]), show (gateF (shlB n (nI f) w (nI t)) (if w = 0 then upd (σ 19) (nI f).toNatClampNeg (nI t) else if w = 1 then upd (σ 19) (nI f).toNatClampNeg (σ 16 (nI t).toNatClampNeg) else σ 19) (σ 19) : Nat → Int32) = upd (σ 19) f (σ 16 t) from (by first | rfl | (simp [gateI, gateF, shlB, *]; done) | simp_all [gateI, gateF, shlB]), show (gateF (shlB n (nI f) w (nI t)) (if w = 1 then upd (σ 20) (nI f).toNatClampNeg (σ 15 (nI t).toNatClampNeg) else σ 20) (σ 20) : Nat → Int32) = upd (σ 20) f (σ 15 t) from (by first | rfl | (simp [gateI, gateF, shlB, *]; done) | simp_all [gateI, gateF, shlB])] <;> rfl)
      · skip
        refine r_tableIn (pc := 10) C 26 89 dX5_shelf_10 (by rw [w_2]; decide) (by rw [w_2]; decide) (by rw [w_2]; rfl) (by decide) ?_
        have w_2 : w = 2 := Int32.toInt_inj.mp (by rw [w_2]; rfl)
        have hio : inB w 0 2 = true := by rw [w_2]; decide
        have hs2 : shlR (σ 15) w k = false := by rw [w_2]; rfl
        refine r_aload_n (pc := 89) C 0 dX5_shelf_89 rfl rfl ?_
        refine xg_shelves (pc := 90) C fl_RX5_42 dX5_shelf_90 ?_
        refine r_iload_n (pc := 93) C 1 dX5_shelf_93 rfl rfl ?_
        refine xa_shelves (pc := 94) C f (rfl) (by omega) dX5_shelf_94 ?_
        refine rc_Vi (pc := 95) C (t_X2_takeNothing' l ad D cs h σ pre post (σ 18) (rfl) f (by omega)) mv_X2_takeNothing ml_RX5_243 rfl ⟨Nat.le_of_ble_eq_true rfl, Nat.le_of_ble_eq_true rfl⟩ ⟨rfl, rfl⟩ (q0 := 56 + f) (wX_shelf (by omega)) rfl rfl rfl rfl rfl (Nat.le_of_ble_eq_true rfl) dX5_shelf_95 ?_
        exact r_iret (pc := 98) C hr hlk dX5_shelf_98 rfl (by first | rfl | (simp [gateI, gateF, shlB, *]; done) | simp_all [gateI, gateF, shlB]) (by rw [show (gateF (shlB n (nI f) w k) (upd (σ 18) (nI f).toNatClampNeg (if w = 0 then 1 else if shlR (σ 15) w k = true then 2 else 0)) (σ 18) : Nat → Int32) = upd (σ 18) f 0 from (by first | rfl | (simp [gateI, gateF, shlB, *]; done) | simp_all [gateI, gateF, shlB]), show (gateF (shlB n (nI f) w k) (if w = 0 then upd (σ 19) (nI f).toNatClampNeg k else if w = 1 then upd (σ 19) (nI f).toNatClampNeg (σ 16 k.toNatClampNeg) else σ 19) (σ 19) : Nat → Int32) = σ 19 from (by first | rfl | (simp [gateI, gateF, shlB, *]; done) | simp_all [gateI, gateF, shlB]), show (gateF (shlB n (nI f) w k) (if w = 1 then upd (σ 20) (nI f).toNatClampNeg (σ 15 k.toNatClampNeg) else σ 20) (σ 20) : Nat → Int32) = σ 20 from (by first | rfl | (simp [gateI, gateF, shlB, *]; done) | simp_all [gateI, gateF, shlB])] <;> rfl)
  · skip
    have c_1 := bI_0.mp c_1
    refine r_iconst (pc := 7) C (-1) dX5_shelf_7 (by decide) ?_
    exact r_iret (pc := 8) C hr hlk dX5_shelf_8 rfl (by first | rfl | (simp [gateI, gateF, shlB, *]; done) | simp_all [gateI, gateF, shlB]) (by rw [show (gateF (shlB n g w k) (upd (σ 18) g.toNatClampNeg (if w = 0 then 1 else if shlR (σ 15) w k = true then 2 else 0)) (σ 18) : Nat → Int32) = σ 18 from (by first | rfl | (simp [gateI, gateF, shlB, *]; done) | simp_all [gateI, gateF, shlB]), show (gateF (shlB n g w k) (if w = 0 then upd (σ 19) g.toNatClampNeg k else if w = 1 then upd (σ 19) g.toNatClampNeg (σ 16 k.toNatClampNeg) else σ 19) (σ 19) : Nat → Int32) = σ 19 from (by first | rfl | (simp [gateI, gateF, shlB, *]; done) | simp_all [gateI, gateF, shlB]), show (gateF (shlB n g w k) (if w = 1 then upd (σ 20) g.toNatClampNeg (σ 15 k.toNatClampNeg) else σ 20) (σ 20) : Nat → Int32) = σ 20 from (by first | rfl | (simp [gateI, gateF, shlB, *]; done) | simp_all [gateI, gateF, shlB])] <;> rfl)
theorem t_X5_shelf' (l : Launch) (ad : Nat → Nat) (D : va_G) (cs : Nat → ClassId) (h : Nat → Nat) (σ : Nat → Nat → Int32) (pre post : va_W) (f0_ : Nat → Int32) (e0_ : σ 0 = f0_) (f15_ : Nat → Int32) (e15_ : σ 15 = f15_) (f16_ : Nat → Int32) (e16_ : σ 16 = f16_) (f18_ : Nat → Int32) (e18_ : σ 18 = f18_) (f19_ : Nat → Int32) (e19_ : σ 19 = f19_) (f20_ : Nat → Int32) (e20_ : σ 20 = f20_) (n : Nat) (g w k : Int32) (hN : f0_ 0 = nI n) (hn : n ≤ 8) (hR : rgM n f0_) (hso : ∀ t : Nat, t < 4 → -1 ≤ (f15_ t).toInt) : CTi l yX5_shelf cX5_shelf 4 .int ({ frames := 2, cells := 0, slots := 0, locals := 43 }) ad D (tysW cs) (pre ++ (wX cs h σ ++ post)) [.ref (h 0), .int g, .int w, .int k] (gateI (shlB n g w k) 1 (-1)) (pre ++ (wX cs h (su (su (su σ 18 (gateF (shlB n g w k) (upd (f18_) g.toNatClampNeg (if w = 0 then 1 else if shlR (f15_) w k = true then 2 else 0)) (f18_))) 19 (gateF (shlB n g w k) (if w = 0 then upd (f19_) g.toNatClampNeg k else if w = 1 then upd (f19_) g.toNatClampNeg (f16_ k.toNatClampNeg) else f19_) (f19_))) 20 (gateF (shlB n g w k) (if w = 1 then upd (f20_) g.toNatClampNeg (f15_ k.toNatClampNeg) else f20_) (f20_))) ++ post)) := by
  subst e0_; subst e15_; subst e16_; subst e18_; subst e19_; subst e20_
  exact t_X5_shelf l ad D cs h σ pre post n g w k hN hn hR hso
theorem dX5_holdsPersonNow_0 : decode cX5_holdsPersonNow 0 = .ok (.aload_n 1, 1) := by decide +kernel
theorem dX5_holdsPersonNow_1 : decode cX5_holdsPersonNow 1 = .ok (.getfield 246, 3) := by decide +kernel
theorem dX5_holdsPersonNow_4 : decode cX5_holdsPersonNow 4 = .ok (.iconst 1, 1) := by decide +kernel
theorem dX5_holdsPersonNow_5 : decode cX5_holdsPersonNow 5 = .ok (.if_icmp .ne 21, 3) := by decide +kernel
theorem dX5_holdsPersonNow_8 : decode cX5_holdsPersonNow 8 = .ok (.aload_n 0, 1) := by decide +kernel
theorem dX5_holdsPersonNow_9 : decode cX5_holdsPersonNow 9 = .ok (.getfield 10, 3) := by decide +kernel
theorem dX5_holdsPersonNow_12 : decode cX5_holdsPersonNow 12 = .ok (.aload_n 1, 1) := by decide +kernel
theorem dX5_holdsPersonNow_13 : decode cX5_holdsPersonNow 13 = .ok (.getfield 250, 3) := by decide +kernel
theorem dX5_holdsPersonNow_16 : decode cX5_holdsPersonNow 16 = .ok (.invokevirtual 116, 3) := by decide +kernel
theorem dX5_holdsPersonNow_19 : decode cX5_holdsPersonNow 19 = .ok (.ifCond .eq 7, 3) := by decide +kernel
theorem dX5_holdsPersonNow_22 : decode cX5_holdsPersonNow 22 = .ok (.iconst 1, 1) := by decide +kernel
theorem dX5_holdsPersonNow_23 : decode cX5_holdsPersonNow 23 = .ok (.goto 4, 3) := by decide +kernel
theorem dX5_holdsPersonNow_26 : decode cX5_holdsPersonNow 26 = .ok (.iconst 0, 1) := by decide +kernel
theorem dX5_holdsPersonNow_27 : decode cX5_holdsPersonNow 27 = .ok (.ireturn, 1) := by decide +kernel
set_option maxHeartbeats 400000 in
set_option maxRecDepth 20000 in
theorem t_X5_holdsPersonNow (l : Launch) (ad : Nat → Nat) (D : va_G) (cs : Nat → ClassId) (h : Nat → Nat) (σ : Nat → Nat → Int32) (pre post : va_W) (n g : Nat) (hN : σ 0 0 = nI n) (hn : n ≤ 8) (hg : g < 4) : CTi l yX5_holdsPersonNow cX5_holdsPersonNow 2 .boolean ({ frames := 2, cells := 0, slots := 0, locals := 43 }) ad D (tysW cs) (pre ++ (wX cs h σ ++ post)) [.ref (h 0), .ref (h (56 + g))] (bI (σ 18 g = 1 ∧ oneB n (σ 19 g) = true)) (pre ++ (wX cs h σ ++ post)) := by
  refine CTi.of (lv0 := [(0, .ref (h 0)), (1, .ref (h (56 + g)))]) (by decide) rfl (Nat.le_of_ble_eq_true rfl) (fun p e s m args below meth c A C hr hlk => ?_)
  have C : Cx p s m args c cX5_holdsPersonNow 2 RX5 ad D (tysW cs) A := C
  refine r_aload_n (pc := 0) C 1 dX5_holdsPersonNow_0 rfl rfl ?_
  refine xg_f_holds (by omega) (pc := 1) C fl_RX5_246 dX5_holdsPersonNow_1 (σ 18 g) rfl ?_
  refine r_iconst (pc := 4) C 1 dX5_holdsPersonNow_4 (by decide) ?_
  refine r_icmp_ne (pc := 5) C 26 dX5_holdsPersonNow_5 (by decide) (fun c_1 => ?_) (fun c_1 => ?_)
  · skip
    refine r_iconst (pc := 26) C 0 dX5_holdsPersonNow_26 (by decide) ?_
    exact r_iret (pc := 27) C hr hlk dX5_holdsPersonNow_27 rfl (by first | exact bI_t ⟨‹_›, ‹_›⟩ | exact bI_f (fun q_ => ‹¬ _› q_.1) | exact bI_f (fun q_ => ‹¬ _› q_.2)) rfl
  · skip
    refine r_aload_n (pc := 8) C 0 dX5_holdsPersonNow_8 rfl rfl ?_
    refine xg_now (pc := 9) C fl_RX5_10 dX5_holdsPersonNow_9 ?_
    refine r_aload_n (pc := 12) C 1 dX5_holdsPersonNow_12 rfl rfl ?_
    refine xg_f_number (by omega) (pc := 13) C fl_RX5_250 dX5_holdsPersonNow_13 (σ 19 g) rfl ?_
    refine rc_Vi (pc := 16) C (t_X0_exists' l ad D cs (fun j => h (1 + j)) (fun _ => σ 0) (pre ++ xA_0 cs h σ) (xC_0 cs h σ ++ post) (σ 0) rfl n (σ 19 g) hN hn) mv_X0_exists ml_RX5_116 rfl ⟨Nat.le_of_ble_eq_true rfl, Nat.le_of_ble_eq_true rfl⟩ ⟨rfl, rfl⟩ (q0 := 0) rfl rfl rfl fx_0 fx_0.symm rfl (Nat.le_of_ble_eq_true rfl) dX5_holdsPersonNow_16 ?_
    refine r_if_eq (pc := 19) C 26 dX5_holdsPersonNow_19 (by decide) (fun c_2 => ?_) (fun c_2 => ?_)
    · skip
      have c_2 := bI_0.mp c_2
      refine r_iconst (pc := 26) C 0 dX5_holdsPersonNow_26 (by decide) ?_
      exact r_iret (pc := 27) C hr hlk dX5_holdsPersonNow_27 rfl (by first | exact bI_t ⟨‹_›, ‹_›⟩ | exact bI_f (fun q_ => ‹¬ _› q_.1) | exact bI_f (fun q_ => ‹¬ _› q_.2)) rfl
    · skip
      have c_2 := bI_n.mp c_2
      refine r_iconst (pc := 22) C 1 dX5_holdsPersonNow_22 (by decide) ?_
      refine r_goto (pc := 23) C 27 dX5_holdsPersonNow_23 (by decide) ?_
      exact r_iret (pc := 27) C hr hlk dX5_holdsPersonNow_27 rfl (by first | exact bI_t ⟨‹_›, ‹_›⟩ | exact bI_f (fun q_ => ‹¬ _› q_.1) | exact bI_f (fun q_ => ‹¬ _› q_.2)) rfl
theorem t_X5_holdsPersonNow' (l : Launch) (ad : Nat → Nat) (D : va_G) (cs : Nat → ClassId) (h : Nat → Nat) (σ : Nat → Nat → Int32) (pre post : va_W) (f0_ : Nat → Int32) (e0_ : σ 0 = f0_) (f18_ : Nat → Int32) (e18_ : σ 18 = f18_) (f19_ : Nat → Int32) (e19_ : σ 19 = f19_) (n g : Nat) (hN : f0_ 0 = nI n) (hn : n ≤ 8) (hg : g < 4) : CTi l yX5_holdsPersonNow cX5_holdsPersonNow 2 .boolean ({ frames := 2, cells := 0, slots := 0, locals := 43 }) ad D (tysW cs) (pre ++ (wX cs h σ ++ post)) [.ref (h 0), .ref (h (56 + g))] (bI (f18_ g = 1 ∧ oneB n (f19_ g) = true)) (pre ++ (wX cs h σ ++ post)) := by
  subst e0_; subst e18_; subst e19_
  exact t_X5_holdsPersonNow l ad D cs h σ pre post n g hN hn hg
theorem dX5_taken_0 : decode cX5_taken 0 = .ok (.iconst 0, 1) := by decide +kernel
theorem dX5_taken_1 : decode cX5_taken 1 = .ok (.iload_n 2, 1) := by decide +kernel
theorem dX5_taken_2 : decode cX5_taken 2 = .ok (.invokestatic 101, 3) := by decide +kernel
theorem dX5_taken_5 : decode cX5_taken 5 = .ok (.istore_n 3, 1) := by decide +kernel
theorem dX5_taken_6 : decode cX5_taken 6 = .ok (.iload_n 1, 1) := by decide +kernel
theorem dX5_taken_7 : decode cX5_taken 7 = .ok (.invokestatic 190, 3) := by decide +kernel
theorem dX5_taken_10 : decode cX5_taken 10 = .ok (.ifCond .eq 19, 3) := by decide +kernel
theorem dX5_taken_13 : decode cX5_taken 13 = .ok (.iload_n 3, 1) := by decide +kernel
theorem dX5_taken_14 : decode cX5_taken 14 = .ok (.ifCond .ne 17, 3) := by decide +kernel
theorem dX5_taken_17 : decode cX5_taken 17 = .ok (.iload_n 2, 1) := by decide +kernel
theorem dX5_taken_18 : decode cX5_taken 18 = .ok (.bipush 10, 2) := by decide +kernel
theorem dX5_taken_20 : decode cX5_taken 20 = .ok (.isub, 1) := by decide +kernel
theorem dX5_taken_21 : decode cX5_taken 21 = .ok (.iconst 0, 1) := by decide +kernel
theorem dX5_taken_22 : decode cX5_taken 22 = .ok (.iconst 3, 1) := by decide +kernel
theorem dX5_taken_23 : decode cX5_taken 23 = .ok (.invokestatic 59, 3) := by decide +kernel
theorem dX5_taken_26 : decode cX5_taken 26 = .ok (.ifCond .ne 5, 3) := by decide +kernel
theorem dX5_taken_29 : decode cX5_taken 29 = .ok (.iconst (-1), 1) := by decide +kernel
theorem dX5_taken_30 : decode cX5_taken 30 = .ok (.ireturn, 1) := by decide +kernel
theorem dX5_taken_31 : decode cX5_taken 31 = .ok (.aload_n 0, 1) := by decide +kernel
theorem dX5_taken_32 : decode cX5_taken 32 = .ok (.getfield 42, 3) := by decide +kernel
theorem dX5_taken_35 : decode cX5_taken 35 = .ok (.iload_n 1, 1) := by decide +kernel
theorem dX5_taken_36 : decode cX5_taken 36 = .ok (.aaload, 1) := by decide +kernel
theorem dX5_taken_37 : decode cX5_taken 37 = .ok (.astore 4, 2) := by decide +kernel
theorem dX5_taken_39 : decode cX5_taken 39 = .ok (.aload 4, 2) := by decide +kernel
theorem dX5_taken_41 : decode cX5_taken 41 = .ok (.getfield 246, 3) := by decide +kernel
theorem dX5_taken_44 : decode cX5_taken 44 = .ok (.iconst 2, 1) := by decide +kernel
theorem dX5_taken_45 : decode cX5_taken 45 = .ok (.if_icmp .ne 26, 3) := by decide +kernel
theorem dX5_taken_48 : decode cX5_taken 48 = .ok (.iload_n 2, 1) := by decide +kernel
theorem dX5_taken_49 : decode cX5_taken 49 = .ok (.bipush 10, 2) := by decide +kernel
theorem dX5_taken_51 : decode cX5_taken 51 = .ok (.isub, 1) := by decide +kernel
theorem dX5_taken_52 : decode cX5_taken 52 = .ok (.aload 4, 2) := by decide +kernel
theorem dX5_taken_54 : decode cX5_taken 54 = .ok (.getfield 249, 3) := by decide +kernel
theorem dX5_taken_57 : decode cX5_taken 57 = .ok (.if_icmp .ne 11, 3) := by decide +kernel
theorem dX5_taken_60 : decode cX5_taken 60 = .ok (.aload 4, 2) := by decide +kernel
theorem dX5_taken_62 : decode cX5_taken 62 = .ok (.getfield 250, 3) := by decide +kernel
theorem dX5_taken_65 : decode cX5_taken 65 = .ok (.goto 5, 3) := by decide +kernel
theorem dX5_taken_68 : decode cX5_taken 68 = .ok (.bipush (-13), 2) := by decide +kernel
theorem dX5_taken_70 : decode cX5_taken 70 = .ok (.ireturn, 1) := by decide +kernel
theorem dX5_taken_71 : decode cX5_taken 71 = .ok (.aload_n 0, 1) := by decide +kernel
theorem dX5_taken_72 : decode cX5_taken 72 = .ok (.aload 4, 2) := by decide +kernel
theorem dX5_taken_74 : decode cX5_taken 74 = .ok (.invokevirtual 253, 3) := by decide +kernel
theorem dX5_taken_77 : decode cX5_taken 77 = .ok (.ifCond .ne 6, 3) := by decide +kernel
theorem dX5_taken_80 : decode cX5_taken 80 = .ok (.bipush (-11), 2) := by decide +kernel
theorem dX5_taken_82 : decode cX5_taken 82 = .ok (.ireturn, 1) := by decide +kernel
theorem dX5_taken_83 : decode cX5_taken 83 = .ok (.iload_n 3, 1) := by decide +kernel
theorem dX5_taken_84 : decode cX5_taken 84 = .ok (.ifCond .eq 33, 3) := by decide +kernel
theorem dX5_taken_87 : decode cX5_taken 87 = .ok (.aload_n 0, 1) := by decide +kernel
theorem dX5_taken_88 : decode cX5_taken 88 = .ok (.getfield 10, 3) := by decide +kernel
theorem dX5_taken_91 : decode cX5_taken 91 = .ok (.getfield 113, 3) := by decide +kernel
theorem dX5_taken_94 : decode cX5_taken 94 = .ok (.iconst 0, 1) := by decide +kernel
theorem dX5_taken_95 : decode cX5_taken 95 = .ok (.aaload, 1) := by decide +kernel
theorem dX5_taken_96 : decode cX5_taken 96 = .ok (.aload 4, 2) := by decide +kernel
theorem dX5_taken_98 : decode cX5_taken 98 = .ok (.getfield 250, 3) := by decide +kernel
theorem dX5_taken_101 : decode cX5_taken 101 = .ok (.iaload, 1) := by decide +kernel
theorem dX5_taken_102 : decode cX5_taken 102 = .ok (.iload_n 2, 1) := by decide +kernel
theorem dX5_taken_103 : decode cX5_taken 103 = .ok (.invokestatic 257, 3) := by decide +kernel
theorem dX5_taken_106 : decode cX5_taken 106 = .ok (.ifCond .eq 11, 3) := by decide +kernel
theorem dX5_taken_109 : decode cX5_taken 109 = .ok (.aload 4, 2) := by decide +kernel
theorem dX5_taken_111 : decode cX5_taken 111 = .ok (.getfield 250, 3) := by decide +kernel
theorem dX5_taken_114 : decode cX5_taken 114 = .ok (.goto 5, 3) := by decide +kernel
theorem dX5_taken_117 : decode cX5_taken 117 = .ok (.bipush (-13), 2) := by decide +kernel
theorem dX5_taken_119 : decode cX5_taken 119 = .ok (.ireturn, 1) := by decide +kernel
set_option maxHeartbeats 400000 in
set_option maxRecDepth 20000 in
theorem t_X5_taken (l : Launch) (ad : Nat → Nat) (D : va_G) (cs : Nat → ClassId) (h : Nat → Nat) (σ : Nat → Nat → Int32) (pre post : va_W) (n : Nat) (g x : Int32) (hN : σ 0 0 = nI n) (hn : n ≤ 8) (hR : rgM n (σ 0)) : CTi l yX5_taken cX5_taken 5 .int ({ frames := 3, cells := 0, slots := 0, locals := 64 }) ad D (tysW cs) (pre ++ (wX cs h σ ++ post)) [.ref (h 0), .int g, .int x] (gateI (inB g 0 3 && (inB x 0 5 || inB (x - 10) 0 3)) (tkC n (σ 0) (σ 18) (σ 19) (σ 20) g.toNatClampNeg x) (-1)) (pre ++ (wX cs h σ ++ post)) := by
  refine CTi.of (lv0 := [(0, .ref (h 0)), (1, .int g), (2, .int x)]) (by decide) rfl (Nat.le_of_ble_eq_true rfl) (fun p e s m args below meth c A C hr hlk => ?_)
  have C : Cx p s m args c cX5_taken 5 RX5 ad D (tysW cs) A := C
  refine r_iconst (pc := 0) C 0 dX5_taken_0 (by decide) ?_
  refine r_iload_n (pc := 1) C 2 dX5_taken_1 rfl rfl ?_
  refine rc_Si (pc := 2) C (t_X5_isTrait_0 l ad D (tysW cs) (wX cs h σ) pre post  x ) ms_X5_isTrait ml_RX5_101 rfl ⟨Nat.le_of_ble_eq_true rfl, Nat.le_of_ble_eq_true rfl⟩ ⟨rfl, rfl⟩ rfl rfl rfl (Nat.le_of_ble_eq_true rfl) dX5_taken_2 ?_
  refine r_istore_n (pc := 5) C [(3, .int (bI (inB x 0 5 = true))), (0, .ref (h 0)), (1, .int g), (2, .int x)] dX5_taken_5 rfl (by decide) rfl ?_
  refine r_iload_n (pc := 6) C 2 dX5_taken_6 rfl rfl ?_
  refine rc_Si (pc := 7) C (t_X5_isPlace l ad D (tysW cs) (wX cs h σ) pre post  g ) ms_X5_isPlace ml_RX5_190 rfl ⟨Nat.le_of_ble_eq_true rfl, Nat.le_of_ble_eq_true rfl⟩ ⟨rfl, rfl⟩ rfl rfl rfl (Nat.le_of_ble_eq_true rfl) dX5_taken_7 ?_
  refine r_if_eq (pc := 10) C 29 dX5_taken_10 (by decide) (fun c_1 => ?_) (fun c_1 => ?_)
  · skip
    have c_1 := bI_0.mp c_1
    refine r_iconst (pc := 29) C (-1) dX5_taken_29 (by decide) ?_
    exact r_iret (pc := 30) C hr hlk dX5_taken_30 rfl (by first | rfl | (simp [gateI, gateF, tkC, *]; done) | simp_all [gateI, gateF, tkC]) rfl
  · skip
    have c_1 := bI_n.mp c_1
    obtain ⟨f, l_f, h_f, rfl⟩ := rng_nat 0 3 (by decide) (by decide) c_1
    have e_f : (nI f).toNatClampNeg = f := nI_clamp (by omega)
    refine r_iload_n (pc := 13) C 0 dX5_taken_13 rfl rfl ?_
    refine r_if_ne (pc := 14) C 31 dX5_taken_14 (by decide) (fun c_2 => ?_) (fun c_2 => ?_)
    · skip
      have c_2 := bI_n.mp c_2
      refine r_aload_n (pc := 31) C 1 dX5_taken_31 rfl rfl ?_
      refine xg_shelves (pc := 32) C fl_RX5_42 dX5_taken_32 ?_
      refine r_iload_n (pc := 35) C 2 dX5_taken_35 rfl rfl ?_
      refine xa_shelves (pc := 36) C f (rfl) (by omega) dX5_taken_36 ?_
      refine r_astore (pc := 37) C [(4, .ref (h (56 + f))), (3, .int (bI (inB x 0 5 = true))), (0, .ref (h 0)), (1, .int (nI f)), (2, .int x)] dX5_taken_37 (by decide) rfl ?_
      refine r_aload (pc := 39) C 0 dX5_taken_39 rfl ?_
      refine xg_f_holds (by omega) (pc := 41) C fl_RX5_246 dX5_taken_41 (σ 18 f) rfl ?_
      refine r_iconst (pc := 44) C 2 dX5_taken_44 (by decide) ?_
      refine r_icmp_ne (pc := 45) C 71 dX5_taken_45 (by decide) (fun c_3 => ?_) (fun c_3 => ?_)
      · skip
        refine r_aload_n (pc := 71) C 2 dX5_taken_71 rfl rfl ?_
        refine r_aload (pc := 72) C 0 dX5_taken_72 rfl ?_
        refine rc_Vi (pc := 74) C (t_X5_holdsPersonNow' l ad D cs h σ pre post (σ 0) (rfl) (σ 18) (rfl) (σ 19) (rfl) n f hN hn (by omega)) mv_X5_holdsPersonNow ml_RX5_253 rfl ⟨Nat.le_of_ble_eq_true rfl, Nat.le_of_ble_eq_true rfl⟩ ⟨rfl, rfl⟩ (q0 := 0) rfl rfl rfl rfl rfl rfl (Nat.le_of_ble_eq_true rfl) dX5_taken_74 ?_
        refine r_if_ne (pc := 77) C 83 dX5_taken_77 (by decide) (fun c_4 => ?_) (fun c_4 => ?_)
        · skip
          have c_4 := bI_n.mp c_4
          obtain ⟨j, h_j, e_q⟩ := one_nat (by omega) c_4.2
          have e_j : (nI j).toNatClampNeg = j := nI_clamp (by omega)
          refine r_iload_n (pc := 83) C 1 dX5_taken_83 rfl rfl ?_
          refine r_if_eq (pc := 84) C 117 dX5_taken_84 (by decide) (fun c_6 => ?_) (fun c_6 => ?_)
          · skip
            have c_6 := bI_0.mp c_6
            refine r_bipush (pc := 117) C (-13) dX5_taken_117 (by decide) ?_
            exact r_iret (pc := 119) C hr hlk dX5_taken_119 rfl (by first | rfl | (simp [gateI, gateF, tkC, *]; done) | simp_all [gateI, gateF, tkC]) rfl
          · skip
            have c_6 := bI_n.mp c_6
            refine r_aload_n (pc := 87) C 2 dX5_taken_87 rfl rfl ?_
            refine xg_now (pc := 88) C fl_RX5_10 dX5_taken_88 ?_
            refine xg_has_0 (pc := 91) C fl_RX5_113 dX5_taken_91 ?_
            refine r_iconst (pc := 94) C 0 dX5_taken_94 (by decide) ?_
            refine xa_has_0 (pc := 95) C 0 (rfl) (by omega) dX5_taken_95 ?_
            refine r_aload (pc := 96) C 0 dX5_taken_96 rfl ?_
            refine xg_f_number (by omega) (pc := 98) C fl_RX5_250 dX5_taken_98 (σ 19 f) rfl ?_
            refine r_eqi (y := nI j) (e_q) ?_
            refine xl_row_0 (pc := 101) C 0 (by decide) j (rfl) (by omega) dX5_taken_101 (σ 0 (8 + 5 * j)) rfl ?_
            refine r_iload_n (pc := 102) C 4 dX5_taken_102 rfl rfl ?_
            refine rc_Si (pc := 103) C (t_X5_isUnder l ad D (tysW cs) (wX cs h σ) pre post  (σ 0 (8 + 5 * j)) x ) ms_X5_isUnder ml_RX5_257 rfl ⟨Nat.le_of_ble_eq_true rfl, Nat.le_of_ble_eq_true rfl⟩ ⟨rfl, rfl⟩ rfl rfl rfl (Nat.le_of_ble_eq_true rfl) dX5_taken_103 ?_
            refine r_if_eq (pc := 106) C 117 dX5_taken_106 (by decide) (fun c_7 => ?_) (fun c_7 => ?_)
            · skip
              have c_7 := bI_0.mp c_7
              refine r_bipush (pc := 117) C (-13) dX5_taken_117 (by decide) ?_
              exact r_iret (pc := 119) C hr hlk dX5_taken_119 rfl (by first | rfl | (simp [gateI, gateF, tkC, *]; done) | simp_all [gateI, gateF, tkC]) rfl
            · skip
              have c_7 := bI_n.mp c_7
              refine r_aload (pc := 109) C 0 dX5_taken_109 rfl ?_
              refine xg_f_number (by omega) (pc := 111) C fl_RX5_250 dX5_taken_111 (σ 19 f) rfl ?_
              refine r_eqi (y := nI j) (e_q) ?_
              refine r_goto (pc := 114) C 119 dX5_taken_114 (by decide) ?_
              exact r_iret (pc := 119) C hr hlk dX5_taken_119 rfl (by first | rfl | (simp [gateI, gateF, tkC, *]; done) | simp_all [gateI, gateF, tkC]) rfl
        · skip
          have c_4 := bI_0.mp c_4
          refine r_bipush (pc := 80) C (-11) dX5_taken_80 (by decide) ?_
          exact r_iret (pc := 82) C hr hlk dX5_taken_82 rfl (by first | rfl | (simp [gateI, gateF, tkC, *]; done) | simp_all [gateI, gateF, tkC]) rfl
      · skip
        refine r_iload_n (pc := 48) C 4 dX5_taken_48 rfl rfl ?_
        refine r_bipush (pc := 49) C 10 dX5_taken_49 (by decide) ?_
        refine r_isub (pc := 51) C dX5_taken_51 ?_
        refine r_aload (pc := 52) C 0 dX5_taken_52 rfl ?_
        refine xg_f_sort (by omega) (pc := 54) C fl_RX5_249 dX5_taken_54 (σ 20 f) rfl ?_
        refine r_icmp_ne (pc := 57) C 68 dX5_taken_57 (by decide) (fun c_8 => ?_) (fun c_8 => ?_)
        · skip
          refine r_bipush (pc := 68) C (-13) dX5_taken_68 (by decide) ?_
          exact r_iret (pc := 70) C hr hlk dX5_taken_70 rfl (by first | rfl | (simp [gateI, gateF, tkC, *]; done) | simp_all [gateI, gateF, tkC]) rfl
        · skip
          refine r_aload (pc := 60) C 0 dX5_taken_60 rfl ?_
          refine xg_f_number (by omega) (pc := 62) C fl_RX5_250 dX5_taken_62 (σ 19 f) rfl ?_
          refine r_goto (pc := 65) C 70 dX5_taken_65 (by decide) ?_
          exact r_iret (pc := 70) C hr hlk dX5_taken_70 rfl (by first | rfl | (simp [gateI, gateF, tkC, *]; done) | simp_all [gateI, gateF, tkC]) rfl
    · skip
      have c_2 := bI_0.mp c_2
      refine r_iload_n (pc := 17) C 3 dX5_taken_17 rfl rfl ?_
      refine r_bipush (pc := 18) C 10 dX5_taken_18 (by decide) ?_
      refine r_isub (pc := 20) C dX5_taken_20 ?_
      refine r_iconst (pc := 21) C 0 dX5_taken_21 (by decide) ?_
      refine r_iconst (pc := 22) C 3 dX5_taken_22 (by decide) ?_
      refine rc_Si (pc := 23) C (t_X5_isWithin l ad D (tysW cs) (wX cs h σ) pre post  (x - 10) (0 : Int32) (3 : Int32) ) ms_X5_isWithin ml_RX5_59 rfl ⟨Nat.le_of_ble_eq_true rfl, Nat.le_of_ble_eq_true rfl⟩ ⟨rfl, rfl⟩ rfl rfl rfl (Nat.le_of_ble_eq_true rfl) dX5_taken_23 ?_
      refine r_if_ne (pc := 26) C 31 dX5_taken_26 (by decide) (fun c_9 => ?_) (fun c_9 => ?_)
      · skip
        have c_9 := bI_n.mp c_9
        refine r_aload_n (pc := 31) C 1 dX5_taken_31 rfl rfl ?_
        refine xg_shelves (pc := 32) C fl_RX5_42 dX5_taken_32 ?_
        refine r_iload_n (pc := 35) C 2 dX5_taken_35 rfl rfl ?_
        refine xa_shelves (pc := 36) C f (rfl) (by omega) dX5_taken_36 ?_
        refine r_astore (pc := 37) C [(4, .ref (h (56 + f))), (3, .int (bI (inB x 0 5 = true))), (0, .ref (h 0)), (1, .int (nI f)), (2, .int x)] dX5_taken_37 (by decide) rfl ?_
        refine r_aload (pc := 39) C 0 dX5_taken_39 rfl ?_
        refine xg_f_holds (by omega) (pc := 41) C fl_RX5_246 dX5_taken_41 (σ 18 f) rfl ?_
        refine r_iconst (pc := 44) C 2 dX5_taken_44 (by decide) ?_
        refine r_icmp_ne (pc := 45) C 71 dX5_taken_45 (by decide) (fun c_10 => ?_) (fun c_10 => ?_)
        · skip
          refine r_aload_n (pc := 71) C 2 dX5_taken_71 rfl rfl ?_
          refine r_aload (pc := 72) C 0 dX5_taken_72 rfl ?_
          refine rc_Vi (pc := 74) C (t_X5_holdsPersonNow' l ad D cs h σ pre post (σ 0) (rfl) (σ 18) (rfl) (σ 19) (rfl) n f hN hn (by omega)) mv_X5_holdsPersonNow ml_RX5_253 rfl ⟨Nat.le_of_ble_eq_true rfl, Nat.le_of_ble_eq_true rfl⟩ ⟨rfl, rfl⟩ (q0 := 0) rfl rfl rfl rfl rfl rfl (Nat.le_of_ble_eq_true rfl) dX5_taken_74 ?_
          refine r_if_ne (pc := 77) C 83 dX5_taken_77 (by decide) (fun c_11 => ?_) (fun c_11 => ?_)
          · skip
            have c_11 := bI_n.mp c_11
            obtain ⟨j, h_j, e_q⟩ := one_nat (by omega) c_11.2
            have e_j : (nI j).toNatClampNeg = j := nI_clamp (by omega)
            refine r_iload_n (pc := 83) C 1 dX5_taken_83 rfl rfl ?_
            refine r_if_eq (pc := 84) C 117 dX5_taken_84 (by decide) (fun c_13 => ?_) (fun c_13 => ?_)
            · skip
              have c_13 := bI_0.mp c_13
              refine r_bipush (pc := 117) C (-13) dX5_taken_117 (by decide) ?_
              exact r_iret (pc := 119) C hr hlk dX5_taken_119 rfl (by first | rfl | (simp [gateI, gateF, tkC, *]; done) | simp_all [gateI, gateF, tkC]) rfl
            · skip
              have c_13 := bI_n.mp c_13
              refine r_aload_n (pc := 87) C 2 dX5_taken_87 rfl rfl ?_
              refine xg_now (pc := 88) C fl_RX5_10 dX5_taken_88 ?_
              refine xg_has_0 (pc := 91) C fl_RX5_113 dX5_taken_91 ?_
              refine r_iconst (pc := 94) C 0 dX5_taken_94 (by decide) ?_
              refine xa_has_0 (pc := 95) C 0 (rfl) (by omega) dX5_taken_95 ?_
              refine r_aload (pc := 96) C 0 dX5_taken_96 rfl ?_
              refine xg_f_number (by omega) (pc := 98) C fl_RX5_250 dX5_taken_98 (σ 19 f) rfl ?_
              refine r_eqi (y := nI j) (e_q) ?_
              refine xl_row_0 (pc := 101) C 0 (by decide) j (rfl) (by omega) dX5_taken_101 (σ 0 (8 + 5 * j)) rfl ?_
              refine r_iload_n (pc := 102) C 4 dX5_taken_102 rfl rfl ?_
              refine rc_Si (pc := 103) C (t_X5_isUnder l ad D (tysW cs) (wX cs h σ) pre post  (σ 0 (8 + 5 * j)) x ) ms_X5_isUnder ml_RX5_257 rfl ⟨Nat.le_of_ble_eq_true rfl, Nat.le_of_ble_eq_true rfl⟩ ⟨rfl, rfl⟩ rfl rfl rfl (Nat.le_of_ble_eq_true rfl) dX5_taken_103 ?_
              refine r_if_eq (pc := 106) C 117 dX5_taken_106 (by decide) (fun c_14 => ?_) (fun c_14 => ?_)
              · skip
                have c_14 := bI_0.mp c_14
                refine r_bipush (pc := 117) C (-13) dX5_taken_117 (by decide) ?_
                exact r_iret (pc := 119) C hr hlk dX5_taken_119 rfl (by first | rfl | (simp [gateI, gateF, tkC, *]; done) | simp_all [gateI, gateF, tkC]) rfl
              · skip
                have c_14 := bI_n.mp c_14
                refine r_aload (pc := 109) C 0 dX5_taken_109 rfl ?_
                refine xg_f_number (by omega) (pc := 111) C fl_RX5_250 dX5_taken_111 (σ 19 f) rfl ?_
                refine r_eqi (y := nI j) (e_q) ?_
                refine r_goto (pc := 114) C 119 dX5_taken_114 (by decide) ?_
                exact r_iret (pc := 119) C hr hlk dX5_taken_119 rfl (by first | rfl | (simp [gateI, gateF, tkC, *]; done) | simp_all [gateI, gateF, tkC]) rfl
          · skip
            have c_11 := bI_0.mp c_11
            refine r_bipush (pc := 80) C (-11) dX5_taken_80 (by decide) ?_
            exact r_iret (pc := 82) C hr hlk dX5_taken_82 rfl (by first | rfl | (simp [gateI, gateF, tkC, *]; done) | simp_all [gateI, gateF, tkC]) rfl
        · skip
          refine r_iload_n (pc := 48) C 4 dX5_taken_48 rfl rfl ?_
          refine r_bipush (pc := 49) C 10 dX5_taken_49 (by decide) ?_
          refine r_isub (pc := 51) C dX5_taken_51 ?_
          refine r_aload (pc := 52) C 0 dX5_taken_52 rfl ?_
          refine xg_f_sort (by omega) (pc := 54) C fl_RX5_249 dX5_taken_54 (σ 20 f) rfl ?_
          refine r_icmp_ne (pc := 57) C 68 dX5_taken_57 (by decide) (fun c_15 => ?_) (fun c_15 => ?_)
          · skip
            refine r_bipush (pc := 68) C (-13) dX5_taken_68 (by decide) ?_
            exact r_iret (pc := 70) C hr hlk dX5_taken_70 rfl (by first | rfl | (simp [gateI, gateF, tkC, *]; done) | simp_all [gateI, gateF, tkC]) rfl
          · skip
            refine r_aload (pc := 60) C 0 dX5_taken_60 rfl ?_
            refine xg_f_number (by omega) (pc := 62) C fl_RX5_250 dX5_taken_62 (σ 19 f) rfl ?_
            refine r_goto (pc := 65) C 70 dX5_taken_65 (by decide) ?_
            exact r_iret (pc := 70) C hr hlk dX5_taken_70 rfl (by first | rfl | (simp [gateI, gateF, tkC, *]; done) | simp_all [gateI, gateF, tkC]) rfl
      · skip
        have c_9 := bI_0.mp c_9
        refine r_iconst (pc := 29) C (-1) dX5_taken_29 (by decide) ?_
        exact r_iret (pc := 30) C hr hlk dX5_taken_30 rfl (by first | rfl | (simp [gateI, gateF, tkC, *]; done) | simp_all [gateI, gateF, tkC]) rfl
theorem t_X5_taken' (l : Launch) (ad : Nat → Nat) (D : va_G) (cs : Nat → ClassId) (h : Nat → Nat) (σ : Nat → Nat → Int32) (pre post : va_W) (f0_ : Nat → Int32) (e0_ : σ 0 = f0_) (f18_ : Nat → Int32) (e18_ : σ 18 = f18_) (f19_ : Nat → Int32) (e19_ : σ 19 = f19_) (f20_ : Nat → Int32) (e20_ : σ 20 = f20_) (n : Nat) (g x : Int32) (hN : f0_ 0 = nI n) (hn : n ≤ 8) (hR : rgM n f0_) : CTi l yX5_taken cX5_taken 5 .int ({ frames := 3, cells := 0, slots := 0, locals := 64 }) ad D (tysW cs) (pre ++ (wX cs h σ ++ post)) [.ref (h 0), .int g, .int x] (gateI (inB g 0 3 && (inB x 0 5 || inB (x - 10) 0 3)) (tkC n f0_ (f18_) (f19_) (f20_) g.toNatClampNeg x) (-1)) (pre ++ (wX cs h σ ++ post)) := by
  subst e0_; subst e18_; subst e19_; subst e20_
  exact t_X5_taken l ad D cs h σ pre post n g x hN hn hR
theorem dX4_begin_0 : decode cX4_begin 0 = .ok (.aload_n 0, 1) := by decide +kernel
theorem dX4_begin_1 : decode cX4_begin 1 = .ok (.getfield 15, 3) := by decide +kernel
theorem dX4_begin_4 : decode cX4_begin 4 = .ok (.bipush 30, 2) := by decide +kernel
theorem dX4_begin_6 : decode cX4_begin 6 = .ok (.if_icmp .ge 23, 3) := by decide +kernel
theorem dX4_begin_9 : decode cX4_begin 9 = .ok (.aload_n 0, 1) := by decide +kernel
theorem dX4_begin_10 : decode cX4_begin 10 = .ok (.getfield 9, 3) := by decide +kernel
theorem dX4_begin_13 : decode cX4_begin 13 = .ok (.aload_n 0, 1) := by decide +kernel
theorem dX4_begin_14 : decode cX4_begin 14 = .ok (.getfield 15, 3) := by decide +kernel
theorem dX4_begin_17 : decode cX4_begin 17 = .ok (.iload_n 1, 1) := by decide +kernel
theorem dX4_begin_18 : decode cX4_begin 18 = .ok (.iastore, 1) := by decide +kernel
theorem dX4_begin_19 : decode cX4_begin 19 = .ok (.aload_n 0, 1) := by decide +kernel
theorem dX4_begin_20 : decode cX4_begin 20 = .ok (.dup, 1) := by decide +kernel
theorem dX4_begin_21 : decode cX4_begin 21 = .ok (.getfield 15, 3) := by decide +kernel
theorem dX4_begin_24 : decode cX4_begin 24 = .ok (.iconst 1, 1) := by decide +kernel
theorem dX4_begin_25 : decode cX4_begin 25 = .ok (.iadd, 1) := by decide +kernel
theorem dX4_begin_26 : decode cX4_begin 26 = .ok (.putfield 15, 3) := by decide +kernel
theorem dX4_begin_29 : decode cX4_begin 29 = .ok (.return_, 1) := by decide +kernel
set_option maxHeartbeats 400000 in
set_option maxRecDepth 20000 in
theorem t_X4_begin (l : Launch) (ad : Nat → Nat) (D : va_G) (cs : Nat → ClassId) (h : Nat → Nat) (σ : Nat → Nat → Int32) (pre post : va_W) (r : Nat) (c : Int32) (hRr : σ 22 0 = nI r) (hr0 : r ≤ 30) : CTv l yX4_begin cX4_begin 2 ({ frames := 0, cells := 0, slots := 0, locals := 0 }) ad D (tysW cs) (pre ++ (wX cs h σ ++ post)) [.ref (h 60), .int c] (pre ++ (wX cs h (su (su σ 21 (rnB (σ 21) r c)) 22 (fun _ => nI (rnR r))) ++ post)) := by
  refine CTv.of (lv0 := [(0, .ref (h 60)), (1, .int c)]) (by decide) rfl (Nat.le_of_ble_eq_true rfl) (fun p e s m args below meth c A C hr hlk => ?_)
  have C : Cx p s m args c cX4_begin 2 RX4 ad D (tysW cs) A := C
  refine r_aload_n (pc := 0) C 0 dX4_begin_0 rfl rfl ?_
  refine xg_h_traceLength (pc := 1) C fl_RX4_15 dX4_begin_1 (σ 22 0) rfl ?_
  refine r_eqi (y := nI r) (hRr) ?_
  refine r_bipush (pc := 4) C 30 dX4_begin_4 (by decide) ?_
  refine r_icmp_ge (pc := 6) C 29 dX4_begin_6 (by decide) (fun c_1 => ?_) (fun c_1 => ?_)
  · skip
    have c_1 := nIc_ge_t (a := r) (b := 30) (by omega) (by omega) c_1
    exact r_vret (pc := 29) C hr hlk dX4_begin_29 (by rw [← rnF (by omega), ← rrF (by omega), ← hRr] <;> rfl)
  · skip
    have c_1 := nIc_ge_f (a := r) (b := 30) (by omega) (by omega) c_1
    refine r_aload_n (pc := 9) C 0 dX4_begin_9 rfl rfl ?_
    refine xg_h_bodies (pc := 10) C fl_RX4_9 dX4_begin_10 ?_
    refine r_aload_n (pc := 13) C 0 dX4_begin_13 rfl rfl ?_
    refine xg_h_traceLength (pc := 14) C fl_RX4_15 dX4_begin_14 (σ 22 0) rfl ?_
    refine r_eqi (y := nI r) (hRr) ?_
    refine r_iload_n (pc := 17) C 1 dX4_begin_17 rfl rfl ?_
    refine xs_bodies (pc := 18) C r (rfl) (by omega) dX4_begin_18 (σ 21) (rfl) ?_
    refine r_aload_n (pc := 19) C 0 dX4_begin_19 rfl rfl ?_
    refine r_dup (pc := 20) C dX4_begin_20 rfl ?_
    refine xg_h_traceLength (pc := 21) C fl_RX4_15 dX4_begin_21 (σ 22 0) (congrFun ((su_nn (by decide))) 0) ?_
    refine r_eqi (y := nI r) (hRr) ?_
    refine r_iconst (pc := 24) C 1 dX4_begin_24 (by decide) ?_
    refine r_iadd (pc := 25) C dX4_begin_25 ?_
    refine r_eqi (y := nI (r + 1)) (nI_add r 1) ?_
    refine xp_h_traceLength (pc := 26) C fl_RX4_15 dX4_begin_26 ?_
    exact r_vret (pc := 29) C hr hlk dX4_begin_29 (by rw [← rnT (by omega), ← rrT (by omega)] <;> rfl)
theorem t_X4_begin' (l : Launch) (ad : Nat → Nat) (D : va_G) (cs : Nat → ClassId) (h : Nat → Nat) (σ : Nat → Nat → Int32) (pre post : va_W) (f21_ : Nat → Int32) (e21_ : σ 21 = f21_) (f22_ : Nat → Int32) (e22_ : σ 22 = f22_) (r : Nat) (c : Int32) (hRr : f22_ 0 = nI r) (hr0 : r ≤ 30) : CTv l yX4_begin cX4_begin 2 ({ frames := 0, cells := 0, slots := 0, locals := 0 }) ad D (tysW cs) (pre ++ (wX cs h σ ++ post)) [.ref (h 60), .int c] (pre ++ (wX cs h (su (su σ 21 (rnB (f21_) r c)) 22 (fun _ => nI (rnR r))) ++ post)) := by
  subst e21_; subst e22_
  exact t_X4_begin l ad D cs h σ pre post r c hRr hr0
theorem dX4_buyerSees_0 : decode cX4_buyerSees 0 = .ok (.aload_n 0, 1) := by decide +kernel
theorem dX4_buyerSees_1 : decode cX4_buyerSees 1 = .ok (.bipush 10, 2) := by decide +kernel
theorem dX4_buyerSees_3 : decode cX4_buyerSees 3 = .ok (.invokevirtual 32, 3) := by decide +kernel
theorem dX4_buyerSees_6 : decode cX4_buyerSees 6 = .ok (.iload_n 1, 1) := by decide +kernel
theorem dX4_buyerSees_7 : decode cX4_buyerSees 7 = .ok (.aload_n 0, 1) := by decide +kernel
theorem dX4_buyerSees_8 : decode cX4_buyerSees 8 = .ok (.getfield 26, 3) := by decide +kernel
theorem dX4_buyerSees_11 : decode cX4_buyerSees 11 = .ok (.iconst 4, 1) := by decide +kernel
theorem dX4_buyerSees_12 : decode cX4_buyerSees 12 = .ok (.imul, 1) := by decide +kernel
theorem dX4_buyerSees_13 : decode cX4_buyerSees 13 = .ok (.iadd, 1) := by decide +kernel
theorem dX4_buyerSees_14 : decode cX4_buyerSees 14 = .ok (.ireturn, 1) := by decide +kernel
set_option maxHeartbeats 400000 in
set_option maxRecDepth 20000 in
theorem t_X4_buyerSees (l : Launch) (ad : Nat → Nat) (D : va_G) (cs : Nat → ClassId) (h : Nat → Nat) (σ : Nat → Nat → Int32) (pre post : va_W) (r : Nat) (x : Int32) (hRr : σ 22 0 = nI r) (hr0 : r ≤ 30) : CTi l yX4_buyerSees cX4_buyerSees 2 .int ({ frames := 1, cells := 0, slots := 0, locals := 21 }) ad D (tysW cs) (pre ++ (wX cs h σ ++ post)) [.ref (h 60), .int x] (sePV (σ 24 0) x) (pre ++ (wX cs h (su (su σ 21 (rnB (σ 21) r 10)) 22 (fun _ => nI (rnR r))) ++ post)) := by
  refine CTi.of (lv0 := [(0, .ref (h 60)), (1, .int x)]) (by decide) rfl (Nat.le_of_ble_eq_true rfl) (fun p e s m args below meth c A C hr hlk => ?_)
  have C : Cx p s m args c cX4_buyerSees 2 RX4 ad D (tysW cs) A := C
  refine r_aload_n (pc := 0) C 0 dX4_buyerSees_0 rfl rfl ?_
  refine r_bipush (pc := 1) C 10 dX4_buyerSees_1 (by decide) ?_
  refine rc_Vv (pc := 3) C (t_X4_begin' l ad D cs h σ pre post (σ 21) (rfl) (σ 22) (rfl) r (10 : Int32) hRr hr0) mv_X4_begin ml_RX4_32 rfl ⟨Nat.le_of_ble_eq_true rfl, Nat.le_of_ble_eq_true rfl⟩ ⟨rfl, rfl⟩ (q0 := 60) rfl rfl rfl rfl rfl rfl (Nat.le_of_ble_eq_true rfl) dX4_buyerSees_3 ?_
  refine r_iload_n (pc := 6) C 1 dX4_buyerSees_6 rfl rfl ?_
  refine r_aload_n (pc := 7) C 0 dX4_buyerSees_7 rfl rfl ?_
  refine xg_h_n (pc := 8) C fl_RX4_26 dX4_buyerSees_8 (σ 24 0) (congrFun (((su_nn (by decide)).trans (su_nn (by decide)))) 0) ?_
  refine r_iconst (pc := 11) C 4 dX4_buyerSees_11 (by decide) ?_
  refine r_imul (pc := 12) C dX4_buyerSees_12 ?_
  refine r_iadd (pc := 13) C dX4_buyerSees_13 ?_
  exact r_iret (pc := 14) C hr hlk dX4_buyerSees_14 rfl (by first | rfl | (simp [sePV, *]; done) | simp_all [sePV]) (by rw [show (rnB (σ 21) r 10 : Nat → Int32) = rnB (σ 21) r (10 : Int32) from (by first | rfl | (simp [sePV, *]; done) | simp_all [sePV])] <;> rfl)
theorem t_X4_buyerSees' (l : Launch) (ad : Nat → Nat) (D : va_G) (cs : Nat → ClassId) (h : Nat → Nat) (σ : Nat → Nat → Int32) (pre post : va_W) (f21_ : Nat → Int32) (e21_ : σ 21 = f21_) (f22_ : Nat → Int32) (e22_ : σ 22 = f22_) (f24_ : Nat → Int32) (e24_ : σ 24 = f24_) (r : Nat) (x : Int32) (hRr : f22_ 0 = nI r) (hr0 : r ≤ 30) : CTi l yX4_buyerSees cX4_buyerSees 2 .int ({ frames := 1, cells := 0, slots := 0, locals := 21 }) ad D (tysW cs) (pre ++ (wX cs h σ ++ post)) [.ref (h 60), .int x] (sePV (f24_ 0) x) (pre ++ (wX cs h (su (su σ 21 (rnB (f21_) r 10)) 22 (fun _ => nI (rnR r))) ++ post)) := by
  subst e21_; subst e22_; subst e24_
  exact t_X4_buyerSees l ad D cs h σ pre post r x hRr hr0
theorem dX4_sees_0 : decode cX4_sees 0 = .ok (.aload_n 0, 1) := by decide +kernel
theorem dX4_sees_1 : decode cX4_sees 1 = .ok (.getfield 23, 3) := by decide +kernel
theorem dX4_sees_4 : decode cX4_sees 4 = .ok (.tableswitch 81 2 4 #[45, 28, 59], 28) := by decide +kernel
theorem dX4_sees_32 : decode cX4_sees 32 = .ok (.aload_n 0, 1) := by decide +kernel
theorem dX4_sees_33 : decode cX4_sees 33 = .ok (.bipush 51, 2) := by decide +kernel
theorem dX4_sees_35 : decode cX4_sees 35 = .ok (.invokevirtual 32, 3) := by decide +kernel
theorem dX4_sees_38 : decode cX4_sees 38 = .ok (.aload_n 0, 1) := by decide +kernel
theorem dX4_sees_39 : decode cX4_sees 39 = .ok (.iload_n 1, 1) := by decide +kernel
theorem dX4_sees_40 : decode cX4_sees 40 = .ok (.invokevirtual 36, 3) := by decide +kernel
theorem dX4_sees_43 : decode cX4_sees 43 = .ok (.aload_n 0, 1) := by decide +kernel
theorem dX4_sees_44 : decode cX4_sees 44 = .ok (.getfield 29, 3) := by decide +kernel
theorem dX4_sees_47 : decode cX4_sees 47 = .ok (.iadd, 1) := by decide +kernel
theorem dX4_sees_48 : decode cX4_sees 48 = .ok (.ireturn, 1) := by decide +kernel
theorem dX4_sees_49 : decode cX4_sees 49 = .ok (.aload_n 0, 1) := by decide +kernel
theorem dX4_sees_50 : decode cX4_sees 50 = .ok (.bipush 30, 2) := by decide +kernel
theorem dX4_sees_52 : decode cX4_sees 52 = .ok (.invokevirtual 32, 3) := by decide +kernel
theorem dX4_sees_55 : decode cX4_sees 55 = .ok (.aload_n 0, 1) := by decide +kernel
theorem dX4_sees_56 : decode cX4_sees 56 = .ok (.iload_n 1, 1) := by decide +kernel
theorem dX4_sees_57 : decode cX4_sees 57 = .ok (.invokevirtual 36, 3) := by decide +kernel
theorem dX4_sees_60 : decode cX4_sees 60 = .ok (.iconst 2, 1) := by decide +kernel
theorem dX4_sees_61 : decode cX4_sees 61 = .ok (.ixor, 1) := by decide +kernel
theorem dX4_sees_62 : decode cX4_sees 62 = .ok (.ireturn, 1) := by decide +kernel
theorem dX4_sees_63 : decode cX4_sees 63 = .ok (.aload_n 0, 1) := by decide +kernel
theorem dX4_sees_64 : decode cX4_sees 64 = .ok (.bipush 40, 2) := by decide +kernel
theorem dX4_sees_66 : decode cX4_sees 66 = .ok (.invokevirtual 32, 3) := by decide +kernel
theorem dX4_sees_69 : decode cX4_sees 69 = .ok (.aload_n 0, 1) := by decide +kernel
theorem dX4_sees_70 : decode cX4_sees 70 = .ok (.bipush 30, 2) := by decide +kernel
theorem dX4_sees_72 : decode cX4_sees 72 = .ok (.invokevirtual 32, 3) := by decide +kernel
theorem dX4_sees_75 : decode cX4_sees 75 = .ok (.iconst 3, 1) := by decide +kernel
theorem dX4_sees_76 : decode cX4_sees 76 = .ok (.aload_n 0, 1) := by decide +kernel
theorem dX4_sees_77 : decode cX4_sees 77 = .ok (.iload_n 1, 1) := by decide +kernel
theorem dX4_sees_78 : decode cX4_sees 78 = .ok (.invokevirtual 36, 3) := by decide +kernel
theorem dX4_sees_81 : decode cX4_sees 81 = .ok (.iconst 2, 1) := by decide +kernel
theorem dX4_sees_82 : decode cX4_sees 82 = .ok (.ixor, 1) := by decide +kernel
theorem dX4_sees_83 : decode cX4_sees 83 = .ok (.isub, 1) := by decide +kernel
theorem dX4_sees_84 : decode cX4_sees 84 = .ok (.ireturn, 1) := by decide +kernel
theorem dX4_sees_85 : decode cX4_sees 85 = .ok (.aload_n 0, 1) := by decide +kernel
theorem dX4_sees_86 : decode cX4_sees 86 = .ok (.iload_n 1, 1) := by decide +kernel
theorem dX4_sees_87 : decode cX4_sees 87 = .ok (.invokevirtual 36, 3) := by decide +kernel
theorem dX4_sees_90 : decode cX4_sees 90 = .ok (.ireturn, 1) := by decide +kernel
set_option maxHeartbeats 400000 in
set_option maxRecDepth 20000 in
theorem t_X4_sees (l : Launch) (ad : Nat → Nat) (D : va_G) (cs : Nat → ClassId) (h : Nat → Nat) (σ : Nat → Nat → Int32) (pre post : va_W) (r : Nat) (x : Int32) (hRr : σ 22 0 = nI r) (hr0 : r ≤ 30) : CTi l yX4_sees cX4_sees 2 .int ({ frames := 2, cells := 0, slots := 0, locals := 42 }) ad D (tysW cs) (pre ++ (wX cs h σ ++ post)) [.ref (h 60), .int x] (seV (σ 23 0) (σ 24 0) (σ 25 0) x) (pre ++ (wX cs h (su (su σ 21 (trB (σ 21) r (seC (σ 23 0)))) 22 (fun _ => nI (trR r (seC (σ 23 0))))) ++ post)) := by
  refine CTi.of (lv0 := [(0, .ref (h 60)), (1, .int x)]) (by decide) rfl (Nat.le_of_ble_eq_true rfl) (fun p e s m args below meth c A C hr hlk => ?_)
  have C : Cx p s m args c cX4_sees 2 RX4 ad D (tysW cs) A := C
  refine r_aload_n (pc := 0) C 0 dX4_sees_0 rfl rfl ?_
  refine xg_h_kind (pc := 1) C fl_RX4_23 dX4_sees_1 (σ 23 0) rfl ?_
  have w_1 := sw_cases (σ 23 0) 2 4 (by decide)
  rcases w_1 with w_1 | w_1
  · skip
    refine r_tableOut (pc := 4) C 28 85 dX4_sees_4 w_1 (by decide) ?_
    have w_1_2 : ¬ (σ 23 0) = 2 := fun q => by rw [q] at w_1; revert w_1; decide
    have w_1_3 : ¬ (σ 23 0) = 3 := fun q => by rw [q] at w_1; revert w_1; decide
    have w_1_4 : ¬ (σ 23 0) = 4 := fun q => by rw [q] at w_1; revert w_1; decide
    refine r_aload_n (pc := 85) C 0 dX4_sees_85 rfl rfl ?_
    refine r_iload_n (pc := 86) C 1 dX4_sees_86 rfl rfl ?_
    refine rc_Vi (pc := 87) C (t_X4_buyerSees' l ad D cs h σ pre post (σ 21) (rfl) (σ 22) (rfl) (σ 24) (rfl) r x hRr hr0) mv_X4_buyerSees ml_RX4_36 rfl ⟨Nat.le_of_ble_eq_true rfl, Nat.le_of_ble_eq_true rfl⟩ ⟨rfl, rfl⟩ (q0 := 60) rfl rfl rfl rfl rfl rfl (Nat.le_of_ble_eq_true rfl) dX4_sees_87 ?_
    exact r_iret (pc := 90) C hr hlk dX4_sees_90 rfl (by first | rfl | (simp [seV, seC, trB, trR, *]; done) | simp_all [seV, seC, trB, trR]) (by rw [show (trB (σ 21) r (seC (σ 23 0)) : Nat → Int32) = rnB (σ 21) r 10 from (by first | rfl | (simp [seV, seC, trB, trR, *]; done) | simp_all [seV, seC, trB, trR]), show (fun _ => nI (trR r (seC (σ 23 0))) : Nat → Int32) = fun _ => nI (rnR r) from (by first | rfl | (simp [seV, seC, trB, trR, *]; done) | simp_all [seV, seC, trB, trR])] <;> rfl)
  · obtain ⟨i_1, hi_1, w_1⟩ := w_1
    have hc_1 : i_1 = 0 ∨ i_1 = 1 ∨ i_1 = 2 := by omega
    rcases hc_1 with rfl | rfl | rfl
    · skip
      refine r_tableIn (pc := 4) C 28 49 dX4_sees_4 (by rw [w_1]; decide) (by rw [w_1]; decide) (by rw [w_1]; rfl) (by decide) ?_
      have w_1 : σ 23 0 = 2 := Int32.toInt_inj.mp (by rw [w_1]; rfl)
      refine r_aload_n (pc := 49) C 0 dX4_sees_49 rfl rfl ?_
      refine r_bipush (pc := 50) C 30 dX4_sees_50 (by decide) ?_
      refine rc_Vv (pc := 52) C (t_X4_begin' l ad D cs h σ pre post (σ 21) (rfl) (σ 22) (rfl) r (30 : Int32) hRr hr0) mv_X4_begin ml_RX4_32 rfl ⟨Nat.le_of_ble_eq_true rfl, Nat.le_of_ble_eq_true rfl⟩ ⟨rfl, rfl⟩ (q0 := 60) rfl rfl rfl rfl rfl rfl (Nat.le_of_ble_eq_true rfl) dX4_sees_52 ?_
      refine r_aload_n (pc := 55) C 0 dX4_sees_55 rfl rfl ?_
      refine r_iload_n (pc := 56) C 1 dX4_sees_56 rfl rfl ?_
      refine rc_Vi (pc := 57) C (t_X4_buyerSees' l ad D cs h (su (su σ 21 (rnB (σ 21) r (30 : Int32))) 22 (fun _ => nI (rnR r))) pre post (rnB (σ 21) r (30 : Int32)) ((su_nn (by decide)).trans su_at) (fun _ => nI (rnR r)) (su_at) (σ 24) (((su_nn (by decide)).trans (su_nn (by decide)))) (rnR r) x rfl (rnR_le hr0)) mv_X4_buyerSees ml_RX4_36 rfl ⟨Nat.le_of_ble_eq_true rfl, Nat.le_of_ble_eq_true rfl⟩ ⟨rfl, rfl⟩ (q0 := 60) rfl rfl rfl rfl rfl rfl (Nat.le_of_ble_eq_true rfl) dX4_sees_57 ?_
      refine r_blk (blk' := wX cs h (su (su σ 21 (rnB (rnB (σ 21) r (30 : Int32)) (rnR r) 10)) 22 (fun _ => nI (rnR (rnR r))))) (congrArg (wX cs h) (by rw [su_cm (k := 22) (j := 21) (by decide), su_su (k := 21), su_su (k := 22)])) ?_
      refine r_iconst (pc := 60) C 2 dX4_sees_60 (by decide) ?_
      refine r_ixor (pc := 61) C dX4_sees_61 ?_
      exact r_iret (pc := 62) C hr hlk dX4_sees_62 rfl (by first | rfl | (simp [seV, seC, trB, trR, *]; done) | simp_all [seV, seC, trB, trR]) (by rw [show (trB (σ 21) r (seC (σ 23 0)) : Nat → Int32) = rnB (rnB (σ 21) r (30 : Int32)) (rnR r) 10 from (by first | rfl | (simp [seV, seC, trB, trR, *]; done) | simp_all [seV, seC, trB, trR]), show (fun _ => nI (trR r (seC (σ 23 0))) : Nat → Int32) = fun _ => nI (rnR (rnR r)) from (by first | rfl | (simp [seV, seC, trB, trR, *]; done) | simp_all [seV, seC, trB, trR])] <;> rfl)
    · skip
      refine r_tableIn (pc := 4) C 28 32 dX4_sees_4 (by rw [w_1]; decide) (by rw [w_1]; decide) (by rw [w_1]; rfl) (by decide) ?_
      have w_1 : σ 23 0 = 3 := Int32.toInt_inj.mp (by rw [w_1]; rfl)
      refine r_aload_n (pc := 32) C 0 dX4_sees_32 rfl rfl ?_
      refine r_bipush (pc := 33) C 51 dX4_sees_33 (by decide) ?_
      refine rc_Vv (pc := 35) C (t_X4_begin' l ad D cs h σ pre post (σ 21) (rfl) (σ 22) (rfl) r (51 : Int32) hRr hr0) mv_X4_begin ml_RX4_32 rfl ⟨Nat.le_of_ble_eq_true rfl, Nat.le_of_ble_eq_true rfl⟩ ⟨rfl, rfl⟩ (q0 := 60) rfl rfl rfl rfl rfl rfl (Nat.le_of_ble_eq_true rfl) dX4_sees_35 ?_
      refine r_aload_n (pc := 38) C 0 dX4_sees_38 rfl rfl ?_
      refine r_iload_n (pc := 39) C 1 dX4_sees_39 rfl rfl ?_
      refine rc_Vi (pc := 40) C (t_X4_buyerSees' l ad D cs h (su (su σ 21 (rnB (σ 21) r (51 : Int32))) 22 (fun _ => nI (rnR r))) pre post (rnB (σ 21) r (51 : Int32)) ((su_nn (by decide)).trans su_at) (fun _ => nI (rnR r)) (su_at) (σ 24) (((su_nn (by decide)).trans (su_nn (by decide)))) (rnR r) x rfl (rnR_le hr0)) mv_X4_buyerSees ml_RX4_36 rfl ⟨Nat.le_of_ble_eq_true rfl, Nat.le_of_ble_eq_true rfl⟩ ⟨rfl, rfl⟩ (q0 := 60) rfl rfl rfl rfl rfl rfl (Nat.le_of_ble_eq_true rfl) dX4_sees_40 ?_
      refine r_blk (blk' := wX cs h (su (su σ 21 (rnB (rnB (σ 21) r (51 : Int32)) (rnR r) 10)) 22 (fun _ => nI (rnR (rnR r))))) (congrArg (wX cs h) (by rw [su_cm (k := 22) (j := 21) (by decide), su_su (k := 21), su_su (k := 22)])) ?_
      refine r_aload_n (pc := 43) C 0 dX4_sees_43 rfl rfl ?_
      refine xg_h_a (pc := 44) C fl_RX4_29 dX4_sees_44 (σ 25 0) (congrFun (((su_nn (by decide)).trans (su_nn (by decide)))) 0) ?_
      refine r_iadd (pc := 47) C dX4_sees_47 ?_
      exact r_iret (pc := 48) C hr hlk dX4_sees_48 rfl (by first | rfl | (simp [seV, seC, trB, trR, *]; done) | simp_all [seV, seC, trB, trR]) (by rw [show (trB (σ 21) r (seC (σ 23 0)) : Nat → Int32) = rnB (rnB (σ 21) r (51 : Int32)) (rnR r) 10 from (by first | rfl | (simp [seV, seC, trB, trR, *]; done) | simp_all [seV, seC, trB, trR]), show (fun _ => nI (trR r (seC (σ 23 0))) : Nat → Int32) = fun _ => nI (rnR (rnR r)) from (by first | rfl | (simp [seV, seC, trB, trR, *]; done) | simp_all [seV, seC, trB, trR])] <;> rfl)
    · skip
      refine r_tableIn (pc := 4) C 28 63 dX4_sees_4 (by rw [w_1]; decide) (by rw [w_1]; decide) (by rw [w_1]; rfl) (by decide) ?_
      have w_1 : σ 23 0 = 4 := Int32.toInt_inj.mp (by rw [w_1]; rfl)
      refine r_aload_n (pc := 63) C 0 dX4_sees_63 rfl rfl ?_
      refine r_bipush (pc := 64) C 40 dX4_sees_64 (by decide) ?_
      refine rc_Vv (pc := 66) C (t_X4_begin' l ad D cs h σ pre post (σ 21) (rfl) (σ 22) (rfl) r (40 : Int32) hRr hr0) mv_X4_begin ml_RX4_32 rfl ⟨Nat.le_of_ble_eq_true rfl, Nat.le_of_ble_eq_true rfl⟩ ⟨rfl, rfl⟩ (q0 := 60) rfl rfl rfl rfl rfl rfl (Nat.le_of_ble_eq_true rfl) dX4_sees_66 ?_
      refine r_aload_n (pc := 69) C 0 dX4_sees_69 rfl rfl ?_
      refine r_bipush (pc := 70) C 30 dX4_sees_70 (by decide) ?_
      refine rc_Vv (pc := 72) C (t_X4_begin' l ad D cs h (su (su σ 21 (rnB (σ 21) r (40 : Int32))) 22 (fun _ => nI (rnR r))) pre post (rnB (σ 21) r (40 : Int32)) ((su_nn (by decide)).trans su_at) (fun _ => nI (rnR r)) (su_at) (rnR r) (30 : Int32) rfl (rnR_le hr0)) mv_X4_begin ml_RX4_32 rfl ⟨Nat.le_of_ble_eq_true rfl, Nat.le_of_ble_eq_true rfl⟩ ⟨rfl, rfl⟩ (q0 := 60) rfl rfl rfl rfl rfl rfl (Nat.le_of_ble_eq_true rfl) dX4_sees_72 ?_
      refine r_blk (blk' := wX cs h (su (su σ 21 (rnB (rnB (σ 21) r (40 : Int32)) (rnR r) (30 : Int32))) 22 (fun _ => nI (rnR (rnR r))))) (congrArg (wX cs h) (by rw [su_cm (k := 22) (j := 21) (by decide), su_su (k := 21), su_su (k := 22)])) ?_
      refine r_iconst (pc := 75) C 3 dX4_sees_75 (by decide) ?_
      refine r_aload_n (pc := 76) C 0 dX4_sees_76 rfl rfl ?_
      refine r_iload_n (pc := 77) C 1 dX4_sees_77 rfl rfl ?_
      refine rc_Vi (pc := 78) C (t_X4_buyerSees' l ad D cs h (su (su σ 21 (rnB (rnB (σ 21) r (40 : Int32)) (rnR r) (30 : Int32))) 22 (fun _ => nI (rnR (rnR r)))) pre post (rnB (rnB (σ 21) r (40 : Int32)) (rnR r) (30 : Int32)) ((su_nn (by decide)).trans su_at) (fun _ => nI (rnR (rnR r))) (su_at) (σ 24) (((su_nn (by decide)).trans (su_nn (by decide)))) (rnR (rnR r)) x rfl (rnR_le (rnR_le hr0))) mv_X4_buyerSees ml_RX4_36 rfl ⟨Nat.le_of_ble_eq_true rfl, Nat.le_of_ble_eq_true rfl⟩ ⟨rfl, rfl⟩ (q0 := 60) rfl rfl rfl rfl rfl rfl (Nat.le_of_ble_eq_true rfl) dX4_sees_78 ?_
      refine r_blk (blk' := wX cs h (su (su σ 21 (rnB (rnB (rnB (σ 21) r (40 : Int32)) (rnR r) (30 : Int32)) (rnR (rnR r)) 10)) 22 (fun _ => nI (rnR (rnR (rnR r)))))) (congrArg (wX cs h) (by rw [su_cm (k := 22) (j := 21) (by decide), su_su (k := 21), su_su (k := 22)])) ?_
      refine r_iconst (pc := 81) C 2 dX4_sees_81 (by decide) ?_
      refine r_ixor (pc := 82) C dX4_sees_82 ?_
      refine r_isub (pc := 83) C dX4_sees_83 ?_
      exact r_iret (pc := 84) C hr hlk dX4_sees_84 rfl (by first | rfl | (simp [seV, seC, trB, trR, *]; done) | simp_all [seV, seC, trB, trR]) (by rw [show (trB (σ 21) r (seC (σ 23 0)) : Nat → Int32) = rnB (rnB (rnB (σ 21) r (40 : Int32)) (rnR r) (30 : Int32)) (rnR (rnR r)) 10 from (by first | rfl | (simp [seV, seC, trB, trR, *]; done) | simp_all [seV, seC, trB, trR]), show (fun _ => nI (trR r (seC (σ 23 0))) : Nat → Int32) = fun _ => nI (rnR (rnR (rnR r))) from (by first | rfl | (simp [seV, seC, trB, trR, *]; done) | simp_all [seV, seC, trB, trR])] <;> rfl)
theorem t_X4_sees' (l : Launch) (ad : Nat → Nat) (D : va_G) (cs : Nat → ClassId) (h : Nat → Nat) (σ : Nat → Nat → Int32) (pre post : va_W) (f21_ : Nat → Int32) (e21_ : σ 21 = f21_) (f22_ : Nat → Int32) (e22_ : σ 22 = f22_) (f23_ : Nat → Int32) (e23_ : σ 23 = f23_) (f24_ : Nat → Int32) (e24_ : σ 24 = f24_) (f25_ : Nat → Int32) (e25_ : σ 25 = f25_) (r : Nat) (x : Int32) (hRr : f22_ 0 = nI r) (hr0 : r ≤ 30) : CTi l yX4_sees cX4_sees 2 .int ({ frames := 2, cells := 0, slots := 0, locals := 42 }) ad D (tysW cs) (pre ++ (wX cs h σ ++ post)) [.ref (h 60), .int x] (seV (f23_ 0) (f24_ 0) (f25_ 0) x) (pre ++ (wX cs h (su (su σ 21 (trB (f21_) r (seC (f23_ 0)))) 22 (fun _ => nI (trR r (seC (f23_ 0))))) ++ post)) := by
  subst e21_; subst e22_; subst e23_; subst e24_; subst e25_
  exact t_X4_sees l ad D cs h σ pre post r x hRr hr0
theorem dX4_buyerPays_0 : decode cX4_buyerPays 0 = .ok (.aload_n 0, 1) := by decide +kernel
theorem dX4_buyerPays_1 : decode cX4_buyerPays 1 = .ok (.bipush 11, 2) := by decide +kernel
theorem dX4_buyerPays_3 : decode cX4_buyerPays 3 = .ok (.invokevirtual 32, 3) := by decide +kernel
theorem dX4_buyerPays_6 : decode cX4_buyerPays 6 = .ok (.aload_n 0, 1) := by decide +kernel
theorem dX4_buyerPays_7 : decode cX4_buyerPays 7 = .ok (.iload_n 1, 1) := by decide +kernel
theorem dX4_buyerPays_8 : decode cX4_buyerPays 8 = .ok (.invokevirtual 43, 3) := by decide +kernel
theorem dX4_buyerPays_11 : decode cX4_buyerPays 11 = .ok (.iconst 3, 1) := by decide +kernel
theorem dX4_buyerPays_12 : decode cX4_buyerPays 12 = .ok (.imul, 1) := by decide +kernel
theorem dX4_buyerPays_13 : decode cX4_buyerPays 13 = .ok (.aload_n 0, 1) := by decide +kernel
theorem dX4_buyerPays_14 : decode cX4_buyerPays 14 = .ok (.getfield 29, 3) := by decide +kernel
theorem dX4_buyerPays_17 : decode cX4_buyerPays 17 = .ok (.isub, 1) := by decide +kernel
theorem dX4_buyerPays_18 : decode cX4_buyerPays 18 = .ok (.ireturn, 1) := by decide +kernel
set_option maxHeartbeats 400000 in
set_option maxRecDepth 20000 in
theorem t_X4_buyerPays (l : Launch) (ad : Nat → Nat) (D : va_G) (cs : Nat → ClassId) (h : Nat → Nat) (σ : Nat → Nat → Int32) (pre post : va_W) (r : Nat) (x : Int32) (hRr : σ 22 0 = nI r) (hr0 : r ≤ 30) : CTi l yX4_buyerPays cX4_buyerPays 2 .int ({ frames := 3, cells := 0, slots := 0, locals := 63 }) ad D (tysW cs) (pre ++ (wX cs h σ ++ post)) [.ref (h 60), .int x] (paPV (σ 23 0) (σ 24 0) (σ 25 0) x) (pre ++ (wX cs h (su (su σ 21 (trB (σ 21) r (paPC (σ 23 0)))) 22 (fun _ => nI (trR r (paPC (σ 23 0))))) ++ post)) := by
  refine CTi.of (lv0 := [(0, .ref (h 60)), (1, .int x)]) (by decide) rfl (Nat.le_of_ble_eq_true rfl) (fun p e s m args below meth c A C hr hlk => ?_)
  have C : Cx p s m args c cX4_buyerPays 2 RX4 ad D (tysW cs) A := C
  refine r_aload_n (pc := 0) C 0 dX4_buyerPays_0 rfl rfl ?_
  refine r_bipush (pc := 1) C 11 dX4_buyerPays_1 (by decide) ?_
  refine rc_Vv (pc := 3) C (t_X4_begin' l ad D cs h σ pre post (σ 21) (rfl) (σ 22) (rfl) r (11 : Int32) hRr hr0) mv_X4_begin ml_RX4_32 rfl ⟨Nat.le_of_ble_eq_true rfl, Nat.le_of_ble_eq_true rfl⟩ ⟨rfl, rfl⟩ (q0 := 60) rfl rfl rfl rfl rfl rfl (Nat.le_of_ble_eq_true rfl) dX4_buyerPays_3 ?_
  refine r_aload_n (pc := 6) C 0 dX4_buyerPays_6 rfl rfl ?_
  refine r_iload_n (pc := 7) C 1 dX4_buyerPays_7 rfl rfl ?_
  refine rc_Vi (pc := 8) C (t_X4_sees' l ad D cs h (su (su σ 21 (rnB (σ 21) r (11 : Int32))) 22 (fun _ => nI (rnR r))) pre post (rnB (σ 21) r (11 : Int32)) ((su_nn (by decide)).trans su_at) (fun _ => nI (rnR r)) (su_at) (σ 23) (((su_nn (by decide)).trans (su_nn (by decide)))) (σ 24) (((su_nn (by decide)).trans (su_nn (by decide)))) (σ 25) (((su_nn (by decide)).trans (su_nn (by decide)))) (rnR r) x rfl (rnR_le hr0)) mv_X4_sees ml_RX4_43 rfl ⟨Nat.le_of_ble_eq_true rfl, Nat.le_of_ble_eq_true rfl⟩ ⟨rfl, rfl⟩ (q0 := 60) rfl rfl rfl rfl rfl rfl (Nat.le_of_ble_eq_true rfl) dX4_buyerPays_8 ?_
  refine r_blk (blk' := wX cs h (su (su σ 21 (trB (rnB (σ 21) r (11 : Int32)) (rnR r) (seC (σ 23 0)))) 22 (fun _ => nI (trR (rnR r) (seC (σ 23 0)))))) (congrArg (wX cs h) (by rw [su_cm (k := 22) (j := 21) (by decide), su_su (k := 21), su_su (k := 22)])) ?_
  refine r_iconst (pc := 11) C 3 dX4_buyerPays_11 (by decide) ?_
  refine r_imul (pc := 12) C dX4_buyerPays_12 ?_
  refine r_aload_n (pc := 13) C 0 dX4_buyerPays_13 rfl rfl ?_
  refine xg_h_a (pc := 14) C fl_RX4_29 dX4_buyerPays_14 (σ 25 0) (congrFun (((su_nn (by decide)).trans (su_nn (by decide)))) 0) ?_
  refine r_isub (pc := 17) C dX4_buyerPays_17 ?_
  exact r_iret (pc := 18) C hr hlk dX4_buyerPays_18 rfl (by first | rfl | (simp [paPV, *]; done) | simp_all [paPV]) (by rw [show (trB (σ 21) r (paPC (σ 23 0)) : Nat → Int32) = trB (rnB (σ 21) r (11 : Int32)) (rnR r) (seC (σ 23 0)) from (by first | rfl | (simp [paPV, *]; done) | simp_all [paPV]), show (fun _ => nI (trR r (paPC (σ 23 0))) : Nat → Int32) = fun _ => nI (trR (rnR r) (seC (σ 23 0))) from (by first | rfl | (simp [paPV, *]; done) | simp_all [paPV])] <;> rfl)
theorem t_X4_buyerPays' (l : Launch) (ad : Nat → Nat) (D : va_G) (cs : Nat → ClassId) (h : Nat → Nat) (σ : Nat → Nat → Int32) (pre post : va_W) (f21_ : Nat → Int32) (e21_ : σ 21 = f21_) (f22_ : Nat → Int32) (e22_ : σ 22 = f22_) (f23_ : Nat → Int32) (e23_ : σ 23 = f23_) (f24_ : Nat → Int32) (e24_ : σ 24 = f24_) (f25_ : Nat → Int32) (e25_ : σ 25 = f25_) (r : Nat) (x : Int32) (hRr : f22_ 0 = nI r) (hr0 : r ≤ 30) : CTi l yX4_buyerPays cX4_buyerPays 2 .int ({ frames := 3, cells := 0, slots := 0, locals := 63 }) ad D (tysW cs) (pre ++ (wX cs h σ ++ post)) [.ref (h 60), .int x] (paPV (f23_ 0) (f24_ 0) (f25_ 0) x) (pre ++ (wX cs h (su (su σ 21 (trB (f21_) r (paPC (f23_ 0)))) 22 (fun _ => nI (trR r (paPC (f23_ 0))))) ++ post)) := by
  subst e21_; subst e22_; subst e23_; subst e24_; subst e25_
  exact t_X4_buyerPays l ad D cs h σ pre post r x hRr hr0
theorem dX4_pays_0 : decode cX4_pays 0 = .ok (.aload_n 0, 1) := by decide +kernel
theorem dX4_pays_1 : decode cX4_pays 1 = .ok (.getfield 23, 3) := by decide +kernel
theorem dX4_pays_4 : decode cX4_pays 4 = .ok (.tableswitch 68 1 4 #[32, 68, 32, 47], 32) := by decide +kernel
theorem dX4_pays_36 : decode cX4_pays 36 = .ok (.aload_n 0, 1) := by decide +kernel
theorem dX4_pays_37 : decode cX4_pays 37 = .ok (.bipush 20, 2) := by decide +kernel
theorem dX4_pays_39 : decode cX4_pays 39 = .ok (.invokevirtual 32, 3) := by decide +kernel
theorem dX4_pays_42 : decode cX4_pays 42 = .ok (.aload_n 0, 1) := by decide +kernel
theorem dX4_pays_43 : decode cX4_pays 43 = .ok (.iload_n 1, 1) := by decide +kernel
theorem dX4_pays_44 : decode cX4_pays 44 = .ok (.invokevirtual 40, 3) := by decide +kernel
theorem dX4_pays_47 : decode cX4_pays 47 = .ok (.bipush 6, 2) := by decide +kernel
theorem dX4_pays_49 : decode cX4_pays 49 = .ok (.isub, 1) := by decide +kernel
theorem dX4_pays_50 : decode cX4_pays 50 = .ok (.ireturn, 1) := by decide +kernel
theorem dX4_pays_51 : decode cX4_pays 51 = .ok (.aload_n 0, 1) := by decide +kernel
theorem dX4_pays_52 : decode cX4_pays 52 = .ok (.bipush 41, 2) := by decide +kernel
theorem dX4_pays_54 : decode cX4_pays 54 = .ok (.invokevirtual 32, 3) := by decide +kernel
theorem dX4_pays_57 : decode cX4_pays 57 = .ok (.aload_n 0, 1) := by decide +kernel
theorem dX4_pays_58 : decode cX4_pays 58 = .ok (.iload_n 1, 1) := by decide +kernel
theorem dX4_pays_59 : decode cX4_pays 59 = .ok (.invokevirtual 40, 3) := by decide +kernel
theorem dX4_pays_62 : decode cX4_pays 62 = .ok (.aload_n 0, 1) := by decide +kernel
theorem dX4_pays_63 : decode cX4_pays 63 = .ok (.aload_n 0, 1) := by decide +kernel
theorem dX4_pays_64 : decode cX4_pays 64 = .ok (.getfield 29, 3) := by decide +kernel
theorem dX4_pays_67 : decode cX4_pays 67 = .ok (.invokevirtual 43, 3) := by decide +kernel
theorem dX4_pays_70 : decode cX4_pays 70 = .ok (.ixor, 1) := by decide +kernel
theorem dX4_pays_71 : decode cX4_pays 71 = .ok (.ireturn, 1) := by decide +kernel
theorem dX4_pays_72 : decode cX4_pays 72 = .ok (.aload_n 0, 1) := by decide +kernel
theorem dX4_pays_73 : decode cX4_pays 73 = .ok (.iload_n 1, 1) := by decide +kernel
theorem dX4_pays_74 : decode cX4_pays 74 = .ok (.invokevirtual 40, 3) := by decide +kernel
theorem dX4_pays_77 : decode cX4_pays 77 = .ok (.ireturn, 1) := by decide +kernel
set_option maxHeartbeats 400000 in
set_option maxRecDepth 20000 in
theorem t_X4_pays (l : Launch) (ad : Nat → Nat) (D : va_G) (cs : Nat → ClassId) (h : Nat → Nat) (σ : Nat → Nat → Int32) (pre post : va_W) (r : Nat) (x : Int32) (hRr : σ 22 0 = nI r) (hr0 : r ≤ 30) : CTi l yX4_pays cX4_pays 2 .int ({ frames := 4, cells := 0, slots := 0, locals := 84 }) ad D (tysW cs) (pre ++ (wX cs h σ ++ post)) [.ref (h 60), .int x] (paV (σ 23 0) (σ 24 0) (σ 25 0) x) (pre ++ (wX cs h (su (su σ 21 (trB (σ 21) r (paC (σ 23 0)))) 22 (fun _ => nI (trR r (paC (σ 23 0))))) ++ post)) := by
  refine CTi.of (lv0 := [(0, .ref (h 60)), (1, .int x)]) (by decide) rfl (Nat.le_of_ble_eq_true rfl) (fun p e s m args below meth c A C hr hlk => ?_)
  have C : Cx p s m args c cX4_pays 2 RX4 ad D (tysW cs) A := C
  refine r_aload_n (pc := 0) C 0 dX4_pays_0 rfl rfl ?_
  refine xg_h_kind (pc := 1) C fl_RX4_23 dX4_pays_1 (σ 23 0) rfl ?_
  have w_1 := sw_cases (σ 23 0) 1 4 (by decide)
  rcases w_1 with w_1 | w_1
  · skip
    refine r_tableOut (pc := 4) C 32 72 dX4_pays_4 w_1 (by decide) ?_
    have w_1_1 : ¬ (σ 23 0) = 1 := fun q => by rw [q] at w_1; revert w_1; decide
    have w_1_2 : ¬ (σ 23 0) = 2 := fun q => by rw [q] at w_1; revert w_1; decide
    have w_1_3 : ¬ (σ 23 0) = 3 := fun q => by rw [q] at w_1; revert w_1; decide
    have w_1_4 : ¬ (σ 23 0) = 4 := fun q => by rw [q] at w_1; revert w_1; decide
    refine r_aload_n (pc := 72) C 0 dX4_pays_72 rfl rfl ?_
    refine r_iload_n (pc := 73) C 1 dX4_pays_73 rfl rfl ?_
    refine rc_Vi (pc := 74) C (t_X4_buyerPays' l ad D cs h σ pre post (σ 21) (rfl) (σ 22) (rfl) (σ 23) (rfl) (σ 24) (rfl) (σ 25) (rfl) r x hRr hr0) mv_X4_buyerPays ml_RX4_40 rfl ⟨Nat.le_of_ble_eq_true rfl, Nat.le_of_ble_eq_true rfl⟩ ⟨rfl, rfl⟩ (q0 := 60) rfl rfl rfl rfl rfl rfl (Nat.le_of_ble_eq_true rfl) dX4_pays_74 ?_
    exact r_iret (pc := 77) C hr hlk dX4_pays_77 rfl (by first | rfl | (simp [paV, paC, trB, trR, trB_app, trR_app, *]; done) | simp_all [paV, paC, trB, trR, trB_app, trR_app]) (by rw [show (trB (σ 21) r (paC (σ 23 0)) : Nat → Int32) = trB (σ 21) r (paPC (σ 23 0)) from (by first | rfl | (simp [paV, paC, trB, trR, trB_app, trR_app, *]; done) | simp_all [paV, paC, trB, trR, trB_app, trR_app]), show (fun _ => nI (trR r (paC (σ 23 0))) : Nat → Int32) = fun _ => nI (trR r (paPC (σ 23 0))) from (by first | rfl | (simp [paV, paC, trB, trR, trB_app, trR_app, *]; done) | simp_all [paV, paC, trB, trR, trB_app, trR_app])] <;> rfl)
  · obtain ⟨i_1, hi_1, w_1⟩ := w_1
    have hc_1 : i_1 = 0 ∨ i_1 = 1 ∨ i_1 = 2 ∨ i_1 = 3 := by omega
    rcases hc_1 with rfl | rfl | rfl | rfl
    · skip
      refine r_tableIn (pc := 4) C 32 36 dX4_pays_4 (by rw [w_1]; decide) (by rw [w_1]; decide) (by rw [w_1]; rfl) (by decide) ?_
      have w_1 : σ 23 0 = 1 := Int32.toInt_inj.mp (by rw [w_1]; rfl)
      refine r_aload_n (pc := 36) C 0 dX4_pays_36 rfl rfl ?_
      refine r_bipush (pc := 37) C 20 dX4_pays_37 (by decide) ?_
      refine rc_Vv (pc := 39) C (t_X4_begin' l ad D cs h σ pre post (σ 21) (rfl) (σ 22) (rfl) r (20 : Int32) hRr hr0) mv_X4_begin ml_RX4_32 rfl ⟨Nat.le_of_ble_eq_true rfl, Nat.le_of_ble_eq_true rfl⟩ ⟨rfl, rfl⟩ (q0 := 60) rfl rfl rfl rfl rfl rfl (Nat.le_of_ble_eq_true rfl) dX4_pays_39 ?_
      refine r_aload_n (pc := 42) C 0 dX4_pays_42 rfl rfl ?_
      refine r_iload_n (pc := 43) C 1 dX4_pays_43 rfl rfl ?_
      refine rc_Vi (pc := 44) C (t_X4_buyerPays' l ad D cs h (su (su σ 21 (rnB (σ 21) r (20 : Int32))) 22 (fun _ => nI (rnR r))) pre post (rnB (σ 21) r (20 : Int32)) ((su_nn (by decide)).trans su_at) (fun _ => nI (rnR r)) (su_at) (σ 23) (((su_nn (by decide)).trans (su_nn (by decide)))) (σ 24) (((su_nn (by decide)).trans (su_nn (by decide)))) (σ 25) (((su_nn (by decide)).trans (su_nn (by decide)))) (rnR r) x rfl (rnR_le hr0)) mv_X4_buyerPays ml_RX4_40 rfl ⟨Nat.le_of_ble_eq_true rfl, Nat.le_of_ble_eq_true rfl⟩ ⟨rfl, rfl⟩ (q0 := 60) rfl rfl rfl rfl rfl rfl (Nat.le_of_ble_eq_true rfl) dX4_pays_44 ?_
      refine r_blk (blk' := wX cs h (su (su σ 21 (trB (rnB (σ 21) r (20 : Int32)) (rnR r) (paPC (σ 23 0)))) 22 (fun _ => nI (trR (rnR r) (paPC (σ 23 0)))))) (congrArg (wX cs h) (by rw [su_cm (k := 22) (j := 21) (by decide), su_su (k := 21), su_su (k := 22)])) ?_
      refine r_bipush (pc := 47) C 6 dX4_pays_47 (by decide) ?_
      refine r_isub (pc := 49) C dX4_pays_49 ?_
      exact r_iret (pc := 50) C hr hlk dX4_pays_50 rfl (by first | rfl | (simp [paV, paC, trB, trR, trB_app, trR_app, *]; done) | simp_all [paV, paC, trB, trR, trB_app, trR_app]) (by rw [show (trB (σ 21) r (paC (σ 23 0)) : Nat → Int32) = trB (rnB (σ 21) r (20 : Int32)) (rnR r) (paPC (σ 23 0)) from (by first | rfl | (simp [paV, paC, trB, trR, trB_app, trR_app, *]; done) | simp_all [paV, paC, trB, trR, trB_app, trR_app]), show (fun _ => nI (trR r (paC (σ 23 0))) : Nat → Int32) = fun _ => nI (trR (rnR r) (paPC (σ 23 0))) from (by first | rfl | (simp [paV, paC, trB, trR, trB_app, trR_app, *]; done) | simp_all [paV, paC, trB, trR, trB_app, trR_app])] <;> rfl)
    · skip
      refine r_tableIn (pc := 4) C 32 72 dX4_pays_4 (by rw [w_1]; decide) (by rw [w_1]; decide) (by rw [w_1]; rfl) (by decide) ?_
      have w_1 : σ 23 0 = 2 := Int32.toInt_inj.mp (by rw [w_1]; rfl)
      refine r_aload_n (pc := 72) C 0 dX4_pays_72 rfl rfl ?_
      refine r_iload_n (pc := 73) C 1 dX4_pays_73 rfl rfl ?_
      refine rc_Vi (pc := 74) C (t_X4_buyerPays' l ad D cs h σ pre post (σ 21) (rfl) (σ 22) (rfl) (σ 23) (rfl) (σ 24) (rfl) (σ 25) (rfl) r x hRr hr0) mv_X4_buyerPays ml_RX4_40 rfl ⟨Nat.le_of_ble_eq_true rfl, Nat.le_of_ble_eq_true rfl⟩ ⟨rfl, rfl⟩ (q0 := 60) rfl rfl rfl rfl rfl rfl (Nat.le_of_ble_eq_true rfl) dX4_pays_74 ?_
      exact r_iret (pc := 77) C hr hlk dX4_pays_77 rfl (by first | rfl | (simp [paV, paC, trB, trR, trB_app, trR_app, *]; done) | simp_all [paV, paC, trB, trR, trB_app, trR_app]) (by rw [show (trB (σ 21) r (paC (σ 23 0)) : Nat → Int32) = trB (σ 21) r (paPC (σ 23 0)) from (by first | rfl | (simp [paV, paC, trB, trR, trB_app, trR_app, *]; done) | simp_all [paV, paC, trB, trR, trB_app, trR_app]), show (fun _ => nI (trR r (paC (σ 23 0))) : Nat → Int32) = fun _ => nI (trR r (paPC (σ 23 0))) from (by first | rfl | (simp [paV, paC, trB, trR, trB_app, trR_app, *]; done) | simp_all [paV, paC, trB, trR, trB_app, trR_app])] <;> rfl)
    · skip
      refine r_tableIn (pc := 4) C 32 36 dX4_pays_4 (by rw [w_1]; decide) (by rw [w_1]; decide) (by rw [w_1]; rfl) (by decide) ?_
      have w_1 : σ 23 0 = 3 := Int32.toInt_inj.mp (by rw [w_1]; rfl)
      refine r_aload_n (pc := 36) C 0 dX4_pays_36 rfl rfl ?_
      refine r_bipush (pc := 37) C 20 dX4_pays_37 (by decide) ?_
      refine rc_Vv (pc := 39) C (t_X4_begin' l ad D cs h σ pre post (σ 21) (rfl) (σ 22) (rfl) r (20 : Int32) hRr hr0) mv_X4_begin ml_RX4_32 rfl ⟨Nat.le_of_ble_eq_true rfl, Nat.le_of_ble_eq_true rfl⟩ ⟨rfl, rfl⟩ (q0 := 60) rfl rfl rfl rfl rfl rfl (Nat.le_of_ble_eq_true rfl) dX4_pays_39 ?_
      refine r_aload_n (pc := 42) C 0 dX4_pays_42 rfl rfl ?_
      refine r_iload_n (pc := 43) C 1 dX4_pays_43 rfl rfl ?_
      refine rc_Vi (pc := 44) C (t_X4_buyerPays' l ad D cs h (su (su σ 21 (rnB (σ 21) r (20 : Int32))) 22 (fun _ => nI (rnR r))) pre post (rnB (σ 21) r (20 : Int32)) ((su_nn (by decide)).trans su_at) (fun _ => nI (rnR r)) (su_at) (σ 23) (((su_nn (by decide)).trans (su_nn (by decide)))) (σ 24) (((su_nn (by decide)).trans (su_nn (by decide)))) (σ 25) (((su_nn (by decide)).trans (su_nn (by decide)))) (rnR r) x rfl (rnR_le hr0)) mv_X4_buyerPays ml_RX4_40 rfl ⟨Nat.le_of_ble_eq_true rfl, Nat.le_of_ble_eq_true rfl⟩ ⟨rfl, rfl⟩ (q0 := 60) rfl rfl rfl rfl rfl rfl (Nat.le_of_ble_eq_true rfl) dX4_pays_44 ?_
      refine r_blk (blk' := wX cs h (su (su σ 21 (trB (rnB (σ 21) r (20 : Int32)) (rnR r) (paPC (σ 23 0)))) 22 (fun _ => nI (trR (rnR r) (paPC (σ 23 0)))))) (congrArg (wX cs h) (by rw [su_cm (k := 22) (j := 21) (by decide), su_su (k := 21), su_su (k := 22)])) ?_
      refine r_bipush (pc := 47) C 6 dX4_pays_47 (by decide) ?_
      refine r_isub (pc := 49) C dX4_pays_49 ?_
      exact r_iret (pc := 50) C hr hlk dX4_pays_50 rfl (by first | rfl | (simp [paV, paC, trB, trR, trB_app, trR_app, *]; done) | simp_all [paV, paC, trB, trR, trB_app, trR_app]) (by rw [show (trB (σ 21) r (paC (σ 23 0)) : Nat → Int32) = trB (rnB (σ 21) r (20 : Int32)) (rnR r) (paPC (σ 23 0)) from (by first | rfl | (simp [paV, paC, trB, trR, trB_app, trR_app, *]; done) | simp_all [paV, paC, trB, trR, trB_app, trR_app]), show (fun _ => nI (trR r (paC (σ 23 0))) : Nat → Int32) = fun _ => nI (trR (rnR r) (paPC (σ 23 0))) from (by first | rfl | (simp [paV, paC, trB, trR, trB_app, trR_app, *]; done) | simp_all [paV, paC, trB, trR, trB_app, trR_app])] <;> rfl)
    · skip
      refine r_tableIn (pc := 4) C 32 51 dX4_pays_4 (by rw [w_1]; decide) (by rw [w_1]; decide) (by rw [w_1]; rfl) (by decide) ?_
      have w_1 : σ 23 0 = 4 := Int32.toInt_inj.mp (by rw [w_1]; rfl)
      refine r_aload_n (pc := 51) C 0 dX4_pays_51 rfl rfl ?_
      refine r_bipush (pc := 52) C 41 dX4_pays_52 (by decide) ?_
      refine rc_Vv (pc := 54) C (t_X4_begin' l ad D cs h σ pre post (σ 21) (rfl) (σ 22) (rfl) r (41 : Int32) hRr hr0) mv_X4_begin ml_RX4_32 rfl ⟨Nat.le_of_ble_eq_true rfl, Nat.le_of_ble_eq_true rfl⟩ ⟨rfl, rfl⟩ (q0 := 60) rfl rfl rfl rfl rfl rfl (Nat.le_of_ble_eq_true rfl) dX4_pays_54 ?_
      refine r_aload_n (pc := 57) C 0 dX4_pays_57 rfl rfl ?_
      refine r_iload_n (pc := 58) C 1 dX4_pays_58 rfl rfl ?_
      refine rc_Vi (pc := 59) C (t_X4_buyerPays' l ad D cs h (su (su σ 21 (rnB (σ 21) r (41 : Int32))) 22 (fun _ => nI (rnR r))) pre post (rnB (σ 21) r (41 : Int32)) ((su_nn (by decide)).trans su_at) (fun _ => nI (rnR r)) (su_at) (σ 23) (((su_nn (by decide)).trans (su_nn (by decide)))) (σ 24) (((su_nn (by decide)).trans (su_nn (by decide)))) (σ 25) (((su_nn (by decide)).trans (su_nn (by decide)))) (rnR r) x rfl (rnR_le hr0)) mv_X4_buyerPays ml_RX4_40 rfl ⟨Nat.le_of_ble_eq_true rfl, Nat.le_of_ble_eq_true rfl⟩ ⟨rfl, rfl⟩ (q0 := 60) rfl rfl rfl rfl rfl rfl (Nat.le_of_ble_eq_true rfl) dX4_pays_59 ?_
      refine r_blk (blk' := wX cs h (su (su σ 21 (trB (rnB (σ 21) r (41 : Int32)) (rnR r) (paPC (σ 23 0)))) 22 (fun _ => nI (trR (rnR r) (paPC (σ 23 0)))))) (congrArg (wX cs h) (by rw [su_cm (k := 22) (j := 21) (by decide), su_su (k := 21), su_su (k := 22)])) ?_
      refine r_aload_n (pc := 62) C 0 dX4_pays_62 rfl rfl ?_
      refine r_aload_n (pc := 63) C 0 dX4_pays_63 rfl rfl ?_
      refine xg_h_a (pc := 64) C fl_RX4_29 dX4_pays_64 (σ 25 0) (congrFun (((su_nn (by decide)).trans (su_nn (by decide)))) 0) ?_
      refine rc_Vi (pc := 67) C (t_X4_sees' l ad D cs h (su (su σ 21 (trB (rnB (σ 21) r (41 : Int32)) (rnR r) (paPC (σ 23 0)))) 22 (fun _ => nI (trR (rnR r) (paPC (σ 23 0))))) pre post (trB (rnB (σ 21) r (41 : Int32)) (rnR r) (paPC (σ 23 0))) ((su_nn (by decide)).trans su_at) (fun _ => nI (trR (rnR r) (paPC (σ 23 0)))) (su_at) (σ 23) (((su_nn (by decide)).trans (su_nn (by decide)))) (σ 24) (((su_nn (by decide)).trans (su_nn (by decide)))) (σ 25) (((su_nn (by decide)).trans (su_nn (by decide)))) (trR (rnR r) (paPC (σ 23 0))) (σ 25 0) rfl (trR_le (rnR_le hr0) _)) mv_X4_sees ml_RX4_43 rfl ⟨Nat.le_of_ble_eq_true rfl, Nat.le_of_ble_eq_true rfl⟩ ⟨rfl, rfl⟩ (q0 := 60) rfl rfl rfl rfl rfl rfl (Nat.le_of_ble_eq_true rfl) dX4_pays_67 ?_
      refine r_blk (blk' := wX cs h (su (su σ 21 (trB (trB (rnB (σ 21) r (41 : Int32)) (rnR r) (paPC (σ 23 0))) (trR (rnR r) (paPC (σ 23 0))) (seC (σ 23 0)))) 22 (fun _ => nI (trR (trR (rnR r) (paPC (σ 23 0))) (seC (σ 23 0)))))) (congrArg (wX cs h) (by rw [su_cm (k := 22) (j := 21) (by decide), su_su (k := 21), su_su (k := 22)])) ?_
      refine r_ixor (pc := 70) C dX4_pays_70 ?_
      exact r_iret (pc := 71) C hr hlk dX4_pays_71 rfl (by first | rfl | (simp [paV, paC, trB, trR, trB_app, trR_app, *]; done) | simp_all [paV, paC, trB, trR, trB_app, trR_app]) (by rw [show (trB (σ 21) r (paC (σ 23 0)) : Nat → Int32) = trB (trB (rnB (σ 21) r (41 : Int32)) (rnR r) (paPC (σ 23 0))) (trR (rnR r) (paPC (σ 23 0))) (seC (σ 23 0)) from (by first | rfl | (simp [paV, paC, trB, trR, trB_app, trR_app, *]; done) | simp_all [paV, paC, trB, trR, trB_app, trR_app]), show (fun _ => nI (trR r (paC (σ 23 0))) : Nat → Int32) = fun _ => nI (trR (trR (rnR r) (paPC (σ 23 0))) (seC (σ 23 0))) from (by first | rfl | (simp [paV, paC, trB, trR, trB_app, trR_app, *]; done) | simp_all [paV, paC, trB, trR, trB_app, trR_app])] <;> rfl)
theorem t_X4_pays' (l : Launch) (ad : Nat → Nat) (D : va_G) (cs : Nat → ClassId) (h : Nat → Nat) (σ : Nat → Nat → Int32) (pre post : va_W) (f21_ : Nat → Int32) (e21_ : σ 21 = f21_) (f22_ : Nat → Int32) (e22_ : σ 22 = f22_) (f23_ : Nat → Int32) (e23_ : σ 23 = f23_) (f24_ : Nat → Int32) (e24_ : σ 24 = f24_) (f25_ : Nat → Int32) (e25_ : σ 25 = f25_) (r : Nat) (x : Int32) (hRr : f22_ 0 = nI r) (hr0 : r ≤ 30) : CTi l yX4_pays cX4_pays 2 .int ({ frames := 4, cells := 0, slots := 0, locals := 84 }) ad D (tysW cs) (pre ++ (wX cs h σ ++ post)) [.ref (h 60), .int x] (paV (f23_ 0) (f24_ 0) (f25_ 0) x) (pre ++ (wX cs h (su (su σ 21 (trB (f21_) r (paC (f23_ 0)))) 22 (fun _ => nI (trR r (paC (f23_ 0))))) ++ post)) := by
  subst e21_; subst e22_; subst e23_; subst e24_; subst e25_
  exact t_X4_pays l ad D cs h σ pre post r x hRr hr0
theorem dX4_buyerParts_0 : decode cX4_buyerParts 0 = .ok (.aload_n 0, 1) := by decide +kernel
theorem dX4_buyerParts_1 : decode cX4_buyerParts 1 = .ok (.bipush 12, 2) := by decide +kernel
theorem dX4_buyerParts_3 : decode cX4_buyerParts 3 = .ok (.invokevirtual 32, 3) := by decide +kernel
theorem dX4_buyerParts_6 : decode cX4_buyerParts 6 = .ok (.aload_n 0, 1) := by decide +kernel
theorem dX4_buyerParts_7 : decode cX4_buyerParts 7 = .ok (.getfield 29, 3) := by decide +kernel
theorem dX4_buyerParts_10 : decode cX4_buyerParts 10 = .ok (.aload_n 0, 1) := by decide +kernel
theorem dX4_buyerParts_11 : decode cX4_buyerParts 11 = .ok (.getfield 26, 3) := by decide +kernel
theorem dX4_buyerParts_14 : decode cX4_buyerParts 14 = .ok (.if_icmp .ne 10, 3) := by decide +kernel
theorem dX4_buyerParts_17 : decode cX4_buyerParts 17 = .ok (.aload_n 0, 1) := by decide +kernel
theorem dX4_buyerParts_18 : decode cX4_buyerParts 18 = .ok (.iconst 1, 1) := by decide +kernel
theorem dX4_buyerParts_19 : decode cX4_buyerParts 19 = .ok (.putfield 19, 3) := by decide +kernel
theorem dX4_buyerParts_22 : decode cX4_buyerParts 22 = .ok (.iconst 0, 1) := by decide +kernel
theorem dX4_buyerParts_23 : decode cX4_buyerParts 23 = .ok (.ireturn, 1) := by decide +kernel
theorem dX4_buyerParts_24 : decode cX4_buyerParts 24 = .ok (.iload_n 1, 1) := by decide +kernel
theorem dX4_buyerParts_25 : decode cX4_buyerParts 25 = .ok (.aload_n 0, 1) := by decide +kernel
theorem dX4_buyerParts_26 : decode cX4_buyerParts 26 = .ok (.getfield 29, 3) := by decide +kernel
theorem dX4_buyerParts_29 : decode cX4_buyerParts 29 = .ok (.aload_n 0, 1) := by decide +kernel
theorem dX4_buyerParts_30 : decode cX4_buyerParts 30 = .ok (.getfield 26, 3) := by decide +kernel
theorem dX4_buyerParts_33 : decode cX4_buyerParts 33 = .ok (.isub, 1) := by decide +kernel
theorem dX4_buyerParts_34 : decode cX4_buyerParts 34 = .ok (.idiv, 1) := by decide +kernel
theorem dX4_buyerParts_35 : decode cX4_buyerParts 35 = .ok (.ireturn, 1) := by decide +kernel
set_option maxHeartbeats 400000 in
set_option maxRecDepth 20000 in
theorem t_X4_buyerParts (l : Launch) (ad : Nat → Nat) (D : va_G) (cs : Nat → ClassId) (h : Nat → Nat) (σ : Nat → Nat → Int32) (pre post : va_W) (r : Nat) (x : Int32) (hRr : σ 22 0 = nI r) (hr0 : r ≤ 30) (hP : σ 26 0 = nI 0) : CTi l yX4_buyerParts cX4_buyerParts 2 .int ({ frames := 1, cells := 0, slots := 0, locals := 21 }) ad D (tysW cs) (pre ++ (wX cs h σ ++ post)) [.ref (h 60), .int x] (ptPV (σ 24 0) (σ 25 0) x) (pre ++ (wX cs h (su (su (su σ 21 (rnB (σ 21) r 12)) 22 (fun _ => nI (rnR r))) 26 (fun _ => ptD (σ 24 0) (σ 25 0))) ++ post)) := by
  refine CTi.of (lv0 := [(0, .ref (h 60)), (1, .int x)]) (by decide) rfl (Nat.le_of_ble_eq_true rfl) (fun p e s m args below meth c A C hr hlk => ?_)
  have C : Cx p s m args c cX4_buyerParts 2 RX4 ad D (tysW cs) A := C
  refine r_aload_n (pc := 0) C 0 dX4_buyerParts_0 rfl rfl ?_
  refine r_bipush (pc := 1) C 12 dX4_buyerParts_1 (by decide) ?_
  refine rc_Vv (pc := 3) C (t_X4_begin' l ad D cs h σ pre post (σ 21) (rfl) (σ 22) (rfl) r (12 : Int32) hRr hr0) mv_X4_begin ml_RX4_32 rfl ⟨Nat.le_of_ble_eq_true rfl, Nat.le_of_ble_eq_true rfl⟩ ⟨rfl, rfl⟩ (q0 := 60) rfl rfl rfl rfl rfl rfl (Nat.le_of_ble_eq_true rfl) dX4_buyerParts_3 ?_
  refine r_aload_n (pc := 6) C 0 dX4_buyerParts_6 rfl rfl ?_
  refine xg_h_a (pc := 7) C fl_RX4_29 dX4_buyerParts_7 (σ 25 0) (congrFun (((su_nn (by decide)).trans (su_nn (by decide)))) 0) ?_
  refine r_aload_n (pc := 10) C 0 dX4_buyerParts_10 rfl rfl ?_
  refine xg_h_n (pc := 11) C fl_RX4_26 dX4_buyerParts_11 (σ 24 0) (congrFun (((su_nn (by decide)).trans (su_nn (by decide)))) 0) ?_
  refine r_icmp_ne (pc := 14) C 24 dX4_buyerParts_14 (by decide) (fun c_1 => ?_) (fun c_1 => ?_)
  · skip
    have hq : ¬ σ 24 0 = σ 25 0 := fun q_ => c_1 q_.symm
    refine r_iload_n (pc := 24) C 1 dX4_buyerParts_24 rfl rfl ?_
    refine r_aload_n (pc := 25) C 0 dX4_buyerParts_25 rfl rfl ?_
    refine xg_h_a (pc := 26) C fl_RX4_29 dX4_buyerParts_26 (σ 25 0) (congrFun (((su_nn (by decide)).trans (su_nn (by decide)))) 0) ?_
    refine r_aload_n (pc := 29) C 0 dX4_buyerParts_29 rfl rfl ?_
    refine xg_h_n (pc := 30) C fl_RX4_26 dX4_buyerParts_30 (σ 24 0) (congrFun (((su_nn (by decide)).trans (su_nn (by decide)))) 0) ?_
    refine r_isub (pc := 33) C dX4_buyerParts_33 ?_
    refine r_idiv (pc := 34) C dX4_buyerParts_34 (sub_ne hq) ?_
    exact r_iret (pc := 35) C hr hlk dX4_buyerParts_35 rfl (by first | rfl | (simp [ptPV, ptD, nI_0, *]; done) | simp_all [ptPV, ptD, nI_0]) (by rw [show (rnB (σ 21) r 12 : Nat → Int32) = rnB (σ 21) r (12 : Int32) from (by first | rfl | (simp [ptPV, ptD, nI_0, *]; done) | simp_all [ptPV, ptD, nI_0]), show (fun _ => ptD (σ 24 0) (σ 25 0) : Nat → Int32) = fun _ => σ 26 0 from (by first | rfl | (simp [ptPV, ptD, nI_0, *]; done) | simp_all [ptPV, ptD, nI_0])] <;> rfl)
  · skip
    have hq : σ 24 0 = σ 25 0 := c_1.symm
    clear c_1
    refine r_aload_n (pc := 17) C 0 dX4_buyerParts_17 rfl rfl ?_
    refine r_iconst (pc := 18) C 1 dX4_buyerParts_18 (by decide) ?_
    refine xp_h_isPartedBy0 (pc := 19) C fl_RX4_19 dX4_buyerParts_19 rfl rfl ?_
    refine r_iconst (pc := 22) C 0 dX4_buyerParts_22 (by decide) ?_
    exact r_iret (pc := 23) C hr hlk dX4_buyerParts_23 rfl (by first | rfl | (simp [ptPV, ptD, nI_0, *]; done) | simp_all [ptPV, ptD, nI_0]) (by rw [show (rnB (σ 21) r 12 : Nat → Int32) = rnB (σ 21) r (12 : Int32) from (by first | rfl | (simp [ptPV, ptD, nI_0, *]; done) | simp_all [ptPV, ptD, nI_0]), show (fun _ => ptD (σ 24 0) (σ 25 0) : Nat → Int32) = fun _ => 1 from (by first | rfl | (simp [ptPV, ptD, nI_0, *]; done) | simp_all [ptPV, ptD, nI_0])] <;> rfl)
theorem t_X4_buyerParts' (l : Launch) (ad : Nat → Nat) (D : va_G) (cs : Nat → ClassId) (h : Nat → Nat) (σ : Nat → Nat → Int32) (pre post : va_W) (f21_ : Nat → Int32) (e21_ : σ 21 = f21_) (f22_ : Nat → Int32) (e22_ : σ 22 = f22_) (f24_ : Nat → Int32) (e24_ : σ 24 = f24_) (f25_ : Nat → Int32) (e25_ : σ 25 = f25_) (f26_ : Nat → Int32) (e26_ : σ 26 = f26_) (r : Nat) (x : Int32) (hRr : f22_ 0 = nI r) (hr0 : r ≤ 30) (hP : f26_ 0 = nI 0) : CTi l yX4_buyerParts cX4_buyerParts 2 .int ({ frames := 1, cells := 0, slots := 0, locals := 21 }) ad D (tysW cs) (pre ++ (wX cs h σ ++ post)) [.ref (h 60), .int x] (ptPV (f24_ 0) (f25_ 0) x) (pre ++ (wX cs h (su (su (su σ 21 (rnB (f21_) r 12)) 22 (fun _ => nI (rnR r))) 26 (fun _ => ptD (f24_ 0) (f25_ 0))) ++ post)) := by
  subst e21_; subst e22_; subst e24_; subst e25_; subst e26_
  exact t_X4_buyerParts l ad D cs h σ pre post r x hRr hr0 hP
theorem dX4_parts_0 : decode cX4_parts 0 = .ok (.aload_n 0, 1) := by decide +kernel
theorem dX4_parts_1 : decode cX4_parts 1 = .ok (.getfield 23, 3) := by decide +kernel
theorem dX4_parts_4 : decode cX4_parts 4 = .ok (.lookupswitch 78 #[(3, 28), (5, 44)], 28) := by decide +kernel
theorem dX4_parts_32 : decode cX4_parts 32 = .ok (.aload_n 0, 1) := by decide +kernel
theorem dX4_parts_33 : decode cX4_parts 33 = .ok (.bipush 50, 2) := by decide +kernel
theorem dX4_parts_35 : decode cX4_parts 35 = .ok (.invokevirtual 32, 3) := by decide +kernel
theorem dX4_parts_38 : decode cX4_parts 38 = .ok (.aload_n 0, 1) := by decide +kernel
theorem dX4_parts_39 : decode cX4_parts 39 = .ok (.iload_n 1, 1) := by decide +kernel
theorem dX4_parts_40 : decode cX4_parts 40 = .ok (.iconst 1, 1) := by decide +kernel
theorem dX4_parts_41 : decode cX4_parts 41 = .ok (.isub, 1) := by decide +kernel
theorem dX4_parts_42 : decode cX4_parts 42 = .ok (.invokevirtual 46, 3) := by decide +kernel
theorem dX4_parts_45 : decode cX4_parts 45 = .ok (.iconst 2, 1) := by decide +kernel
theorem dX4_parts_46 : decode cX4_parts 46 = .ok (.imul, 1) := by decide +kernel
theorem dX4_parts_47 : decode cX4_parts 47 = .ok (.ireturn, 1) := by decide +kernel
theorem dX4_parts_48 : decode cX4_parts 48 = .ok (.aload_n 0, 1) := by decide +kernel
theorem dX4_parts_49 : decode cX4_parts 49 = .ok (.bipush 61, 2) := by decide +kernel
theorem dX4_parts_51 : decode cX4_parts 51 = .ok (.invokevirtual 32, 3) := by decide +kernel
theorem dX4_parts_54 : decode cX4_parts 54 = .ok (.aload_n 0, 1) := by decide +kernel
theorem dX4_parts_55 : decode cX4_parts 55 = .ok (.iload_n 1, 1) := by decide +kernel
theorem dX4_parts_56 : decode cX4_parts 56 = .ok (.invokevirtual 46, 3) := by decide +kernel
theorem dX4_parts_59 : decode cX4_parts 59 = .ok (.istore_n 2, 1) := by decide +kernel
theorem dX4_parts_60 : decode cX4_parts 60 = .ok (.aload_n 0, 1) := by decide +kernel
theorem dX4_parts_61 : decode cX4_parts 61 = .ok (.getfield 19, 3) := by decide +kernel
theorem dX4_parts_64 : decode cX4_parts 64 = .ok (.ifCond .eq 7, 3) := by decide +kernel
theorem dX4_parts_67 : decode cX4_parts 67 = .ok (.iconst 0, 1) := by decide +kernel
theorem dX4_parts_68 : decode cX4_parts 68 = .ok (.goto 13, 3) := by decide +kernel
theorem dX4_parts_71 : decode cX4_parts 71 = .ok (.iload_n 2, 1) := by decide +kernel
theorem dX4_parts_72 : decode cX4_parts 72 = .ok (.aload_n 0, 1) := by decide +kernel
theorem dX4_parts_73 : decode cX4_parts 73 = .ok (.aload_n 0, 1) := by decide +kernel
theorem dX4_parts_74 : decode cX4_parts 74 = .ok (.getfield 26, 3) := by decide +kernel
theorem dX4_parts_77 : decode cX4_parts 77 = .ok (.invokevirtual 43, 3) := by decide +kernel
theorem dX4_parts_80 : decode cX4_parts 80 = .ok (.isub, 1) := by decide +kernel
theorem dX4_parts_81 : decode cX4_parts 81 = .ok (.ireturn, 1) := by decide +kernel
theorem dX4_parts_82 : decode cX4_parts 82 = .ok (.aload_n 0, 1) := by decide +kernel
theorem dX4_parts_83 : decode cX4_parts 83 = .ok (.iload_n 1, 1) := by decide +kernel
theorem dX4_parts_84 : decode cX4_parts 84 = .ok (.invokevirtual 46, 3) := by decide +kernel
theorem dX4_parts_87 : decode cX4_parts 87 = .ok (.ireturn, 1) := by decide +kernel
set_option maxHeartbeats 400000 in
set_option maxRecDepth 20000 in
theorem t_X4_parts (l : Launch) (ad : Nat → Nat) (D : va_G) (cs : Nat → ClassId) (h : Nat → Nat) (σ : Nat → Nat → Int32) (pre post : va_W) (r : Nat) (x : Int32) (hRr : σ 22 0 = nI r) (hr0 : r ≤ 30) (hP : σ 26 0 = nI 0) : CTi l yX4_parts cX4_parts 3 .int ({ frames := 3, cells := 0, slots := 0, locals := 63 }) ad D (tysW cs) (pre ++ (wX cs h σ ++ post)) [.ref (h 60), .int x] (ptV (σ 23 0) (σ 24 0) (σ 25 0) x) (pre ++ (wX cs h (su (su (su σ 21 (trB (σ 21) r (ptC (σ 23 0) (σ 24 0) (σ 25 0)))) 22 (fun _ => nI (trR r (ptC (σ 23 0) (σ 24 0) (σ 25 0))))) 26 (fun _ => ptD (σ 24 0) (σ 25 0))) ++ post)) := by
  refine CTi.of (lv0 := [(0, .ref (h 60)), (1, .int x)]) (by decide) rfl (Nat.le_of_ble_eq_true rfl) (fun p e s m args below meth c A C hr hlk => ?_)
  have C : Cx p s m args c cX4_parts 3 RX4 ad D (tysW cs) A := C
  refine r_aload_n (pc := 0) C 0 dX4_parts_0 rfl rfl ?_
  refine xg_h_kind (pc := 1) C fl_RX4_23 dX4_parts_1 (σ 23 0) rfl ?_
  by_cases w_1_3 : σ 23 0 = 3
  · skip
    refine r_lookup (pc := 4) C (off := 28) 28 32 dX4_parts_4 (by decide) (by rw [w_1_3]; rfl) (by decide) ?_
    refine r_aload_n (pc := 32) C 0 dX4_parts_32 rfl rfl ?_
    refine r_bipush (pc := 33) C 50 dX4_parts_33 (by decide) ?_
    refine rc_Vv (pc := 35) C (t_X4_begin' l ad D cs h σ pre post (σ 21) (rfl) (σ 22) (rfl) r (50 : Int32) hRr hr0) mv_X4_begin ml_RX4_32 rfl ⟨Nat.le_of_ble_eq_true rfl, Nat.le_of_ble_eq_true rfl⟩ ⟨rfl, rfl⟩ (q0 := 60) rfl rfl rfl rfl rfl rfl (Nat.le_of_ble_eq_true rfl) dX4_parts_35 ?_
    refine r_aload_n (pc := 38) C 0 dX4_parts_38 rfl rfl ?_
    refine r_iload_n (pc := 39) C 1 dX4_parts_39 rfl rfl ?_
    refine r_iconst (pc := 40) C 1 dX4_parts_40 (by decide) ?_
    refine r_isub (pc := 41) C dX4_parts_41 ?_
    refine rc_Vi (pc := 42) C (t_X4_buyerParts' l ad D cs h (su (su σ 21 (rnB (σ 21) r (50 : Int32))) 22 (fun _ => nI (rnR r))) pre post (rnB (σ 21) r (50 : Int32)) ((su_nn (by decide)).trans su_at) (fun _ => nI (rnR r)) (su_at) (σ 24) (((su_nn (by decide)).trans (su_nn (by decide)))) (σ 25) (((su_nn (by decide)).trans (su_nn (by decide)))) (σ 26) (((su_nn (by decide)).trans (su_nn (by decide)))) (rnR r) (x - 1) rfl (rnR_le hr0) hP) mv_X4_buyerParts ml_RX4_46 rfl ⟨Nat.le_of_ble_eq_true rfl, Nat.le_of_ble_eq_true rfl⟩ ⟨rfl, rfl⟩ (q0 := 60) rfl rfl rfl rfl rfl rfl (Nat.le_of_ble_eq_true rfl) dX4_parts_42 ?_
    refine r_blk (blk' := wX cs h (su (su (su σ 21 (rnB (rnB (σ 21) r (50 : Int32)) (rnR r) 12)) 22 (fun _ => nI (rnR (rnR r)))) 26 (fun _ => ptD (σ 24 0) (σ 25 0)))) (congrArg (wX cs h) (by rw [su_cm (k := 22) (j := 21) (by decide), su_su (k := 21), su_su (k := 22)])) ?_
    refine r_iconst (pc := 45) C 2 dX4_parts_45 (by decide) ?_
    refine r_imul (pc := 46) C dX4_parts_46 ?_
    exact r_iret (pc := 47) C hr hlk dX4_parts_47 rfl (by first | rfl | (simp [ptV, ptC, trB, trR, *]; done) | simp_all [ptV, ptC, trB, trR]) (by rw [show (trB (σ 21) r (ptC (σ 23 0) (σ 24 0) (σ 25 0)) : Nat → Int32) = rnB (rnB (σ 21) r (50 : Int32)) (rnR r) 12 from (by first | rfl | (simp [ptV, ptC, trB, trR, *]; done) | simp_all [ptV, ptC, trB, trR]), show (fun _ => nI (trR r (ptC (σ 23 0) (σ 24 0) (σ 25 0))) : Nat → Int32) = fun _ => nI (rnR (rnR r)) from (by first | rfl | (simp [ptV, ptC, trB, trR, *]; done) | simp_all [ptV, ptC, trB, trR])] <;> rfl)
  by_cases w_1_5 : σ 23 0 = 5
  · skip
    refine r_lookup (pc := 4) C (off := 44) 28 48 dX4_parts_4 (by decide) (by rw [w_1_5]; rfl) (by decide) ?_
    refine r_aload_n (pc := 48) C 0 dX4_parts_48 rfl rfl ?_
    refine r_bipush (pc := 49) C 61 dX4_parts_49 (by decide) ?_
    refine rc_Vv (pc := 51) C (t_X4_begin' l ad D cs h σ pre post (σ 21) (rfl) (σ 22) (rfl) r (61 : Int32) hRr hr0) mv_X4_begin ml_RX4_32 rfl ⟨Nat.le_of_ble_eq_true rfl, Nat.le_of_ble_eq_true rfl⟩ ⟨rfl, rfl⟩ (q0 := 60) rfl rfl rfl rfl rfl rfl (Nat.le_of_ble_eq_true rfl) dX4_parts_51 ?_
    refine r_aload_n (pc := 54) C 0 dX4_parts_54 rfl rfl ?_
    refine r_iload_n (pc := 55) C 1 dX4_parts_55 rfl rfl ?_
    refine rc_Vi (pc := 56) C (t_X4_buyerParts' l ad D cs h (su (su σ 21 (rnB (σ 21) r (61 : Int32))) 22 (fun _ => nI (rnR r))) pre post (rnB (σ 21) r (61 : Int32)) ((su_nn (by decide)).trans su_at) (fun _ => nI (rnR r)) (su_at) (σ 24) (((su_nn (by decide)).trans (su_nn (by decide)))) (σ 25) (((su_nn (by decide)).trans (su_nn (by decide)))) (σ 26) (((su_nn (by decide)).trans (su_nn (by decide)))) (rnR r) x rfl (rnR_le hr0) hP) mv_X4_buyerParts ml_RX4_46 rfl ⟨Nat.le_of_ble_eq_true rfl, Nat.le_of_ble_eq_true rfl⟩ ⟨rfl, rfl⟩ (q0 := 60) rfl rfl rfl rfl rfl rfl (Nat.le_of_ble_eq_true rfl) dX4_parts_56 ?_
    refine r_blk (blk' := wX cs h (su (su (su σ 21 (rnB (rnB (σ 21) r (61 : Int32)) (rnR r) 12)) 22 (fun _ => nI (rnR (rnR r)))) 26 (fun _ => ptD (σ 24 0) (σ 25 0)))) (congrArg (wX cs h) (by rw [su_cm (k := 22) (j := 21) (by decide), su_su (k := 21), su_su (k := 22)])) ?_
    refine r_istore_n (pc := 59) C [(2, .int (ptPV (σ 24 0) (σ 25 0) x)), (0, .ref (h 60)), (1, .int x)] dX4_parts_59 rfl (by decide) rfl ?_
    refine r_aload_n (pc := 60) C 1 dX4_parts_60 rfl rfl ?_
    refine xg_h_isPartedBy0 (pc := 61) C fl_RX4_19 dX4_parts_61 (ptD (σ 24 0) (σ 25 0)) (congrFun (su_at) 0) ?_
    refine r_if_eq (pc := 64) C 71 dX4_parts_64 (by decide) (fun c_2 => ?_) (fun c_2 => ?_)
    · skip
      have hq := ptD_0 c_2
      refine r_iload_n (pc := 71) C 0 dX4_parts_71 rfl rfl ?_
      refine r_aload_n (pc := 72) C 1 dX4_parts_72 rfl rfl ?_
      refine r_aload_n (pc := 73) C 1 dX4_parts_73 rfl rfl ?_
      refine xg_h_n (pc := 74) C fl_RX4_26 dX4_parts_74 (σ 24 0) (congrFun ((((su_nn (by decide)).trans (su_nn (by decide))).trans (su_nn (by decide)))) 0) ?_
      refine rc_Vi (pc := 77) C (t_X4_sees' l ad D cs h (su (su (su σ 21 (rnB (rnB (σ 21) r (61 : Int32)) (rnR r) 12)) 22 (fun _ => nI (rnR (rnR r)))) 26 (fun _ => ptD (σ 24 0) (σ 25 0))) pre post (rnB (rnB (σ 21) r (61 : Int32)) (rnR r) 12) (((su_nn (by decide)).trans (su_nn (by decide))).trans su_at) (fun _ => nI (rnR (rnR r))) ((su_nn (by decide)).trans su_at) (σ 23) ((((su_nn (by decide)).trans (su_nn (by decide))).trans (su_nn (by decide)))) (σ 24) ((((su_nn (by decide)).trans (su_nn (by decide))).trans (su_nn (by decide)))) (σ 25) ((((su_nn (by decide)).trans (su_nn (by decide))).trans (su_nn (by decide)))) (rnR (rnR r)) (σ 24 0) rfl (rnR_le (rnR_le hr0))) mv_X4_sees ml_RX4_43 rfl ⟨Nat.le_of_ble_eq_true rfl, Nat.le_of_ble_eq_true rfl⟩ ⟨rfl, rfl⟩ (q0 := 60) rfl rfl rfl rfl rfl rfl (Nat.le_of_ble_eq_true rfl) dX4_parts_77 ?_
      refine r_blk (blk' := wX cs h (su (su (su σ 21 (trB (rnB (rnB (σ 21) r (61 : Int32)) (rnR r) 12) (rnR (rnR r)) (seC (σ 23 0)))) 22 (fun _ => nI (trR (rnR (rnR r)) (seC (σ 23 0))))) 26 (fun _ => ptD (σ 24 0) (σ 25 0)))) (congrArg (wX cs h) (by rw [su_cm (k := 26) (j := 21) (by decide), su_cm (k := 22) (j := 21) (by decide), su_su (k := 21), su_cm (k := 26) (j := 22) (by decide), su_su (k := 22)])) ?_
      refine r_isub (pc := 80) C dX4_parts_80 ?_
      exact r_iret (pc := 81) C hr hlk dX4_parts_81 rfl (by first | rfl | (simp [ptV, ptC, trB, trR, *]; done) | simp_all [ptV, ptC, trB, trR]) (by rw [show (trB (σ 21) r (ptC (σ 23 0) (σ 24 0) (σ 25 0)) : Nat → Int32) = trB (rnB (rnB (σ 21) r (61 : Int32)) (rnR r) 12) (rnR (rnR r)) (seC (σ 23 0)) from (by first | rfl | (simp [ptV, ptC, trB, trR, *]; done) | simp_all [ptV, ptC, trB, trR]), show (fun _ => nI (trR r (ptC (σ 23 0) (σ 24 0) (σ 25 0))) : Nat → Int32) = fun _ => nI (trR (rnR (rnR r)) (seC (σ 23 0))) from (by first | rfl | (simp [ptV, ptC, trB, trR, *]; done) | simp_all [ptV, ptC, trB, trR])] <;> rfl)
    · skip
      have hq := ptD_1 c_2
      refine r_iconst (pc := 67) C 0 dX4_parts_67 (by decide) ?_
      refine r_goto (pc := 68) C 81 dX4_parts_68 (by decide) ?_
      exact r_iret (pc := 81) C hr hlk dX4_parts_81 rfl (by first | rfl | (simp [ptV, ptC, trB, trR, *]; done) | simp_all [ptV, ptC, trB, trR]) (by rw [show (trB (σ 21) r (ptC (σ 23 0) (σ 24 0) (σ 25 0)) : Nat → Int32) = rnB (rnB (σ 21) r (61 : Int32)) (rnR r) 12 from (by first | rfl | (simp [ptV, ptC, trB, trR, *]; done) | simp_all [ptV, ptC, trB, trR]), show (fun _ => nI (trR r (ptC (σ 23 0) (σ 24 0) (σ 25 0))) : Nat → Int32) = fun _ => nI (rnR (rnR r)) from (by first | rfl | (simp [ptV, ptC, trB, trR, *]; done) | simp_all [ptV, ptC, trB, trR])] <;> rfl)
  refine r_lookup (pc := 4) C (off := 78) 28 82 dX4_parts_4 (by decide) (by show Op.lookupswitch.offset [(3, 28), (5, 44)] 78 _ = _; exact (lv_osw w_1_3 rfl).trans ((lv_osw w_1_5 rfl).trans (rfl))) (by decide) ?_
  refine r_aload_n (pc := 82) C 0 dX4_parts_82 rfl rfl ?_
  refine r_iload_n (pc := 83) C 1 dX4_parts_83 rfl rfl ?_
  refine rc_Vi (pc := 84) C (t_X4_buyerParts' l ad D cs h σ pre post (σ 21) (rfl) (σ 22) (rfl) (σ 24) (rfl) (σ 25) (rfl) (σ 26) (rfl) r x hRr hr0 hP) mv_X4_buyerParts ml_RX4_46 rfl ⟨Nat.le_of_ble_eq_true rfl, Nat.le_of_ble_eq_true rfl⟩ ⟨rfl, rfl⟩ (q0 := 60) rfl rfl rfl rfl rfl rfl (Nat.le_of_ble_eq_true rfl) dX4_parts_84 ?_
  exact r_iret (pc := 87) C hr hlk dX4_parts_87 rfl (by first | rfl | (simp [ptV, ptC, trB, trR, *]; done) | simp_all [ptV, ptC, trB, trR]) (by rw [show (trB (σ 21) r (ptC (σ 23 0) (σ 24 0) (σ 25 0)) : Nat → Int32) = rnB (σ 21) r 12 from (by first | rfl | (simp [ptV, ptC, trB, trR, *]; done) | simp_all [ptV, ptC, trB, trR]), show (fun _ => nI (trR r (ptC (σ 23 0) (σ 24 0) (σ 25 0))) : Nat → Int32) = fun _ => nI (rnR r) from (by first | rfl | (simp [ptV, ptC, trB, trR, *]; done) | simp_all [ptV, ptC, trB, trR])] <;> rfl)
theorem t_X4_parts' (l : Launch) (ad : Nat → Nat) (D : va_G) (cs : Nat → ClassId) (h : Nat → Nat) (σ : Nat → Nat → Int32) (pre post : va_W) (f21_ : Nat → Int32) (e21_ : σ 21 = f21_) (f22_ : Nat → Int32) (e22_ : σ 22 = f22_) (f23_ : Nat → Int32) (e23_ : σ 23 = f23_) (f24_ : Nat → Int32) (e24_ : σ 24 = f24_) (f25_ : Nat → Int32) (e25_ : σ 25 = f25_) (f26_ : Nat → Int32) (e26_ : σ 26 = f26_) (r : Nat) (x : Int32) (hRr : f22_ 0 = nI r) (hr0 : r ≤ 30) (hP : f26_ 0 = nI 0) : CTi l yX4_parts cX4_parts 3 .int ({ frames := 3, cells := 0, slots := 0, locals := 63 }) ad D (tysW cs) (pre ++ (wX cs h σ ++ post)) [.ref (h 60), .int x] (ptV (f23_ 0) (f24_ 0) (f25_ 0) x) (pre ++ (wX cs h (su (su (su σ 21 (trB (f21_) r (ptC (f23_ 0) (f24_ 0) (f25_ 0)))) 22 (fun _ => nI (trR r (ptC (f23_ 0) (f24_ 0) (f25_ 0))))) 26 (fun _ => ptD (f24_ 0) (f25_ 0))) ++ post)) := by
  subst e21_; subst e22_; subst e23_; subst e24_; subst e25_; subst e26_
  exact t_X4_parts l ad D cs h σ pre post r x hRr hr0 hP
theorem dX4_buyerTurns_0 : decode cX4_buyerTurns 0 = .ok (.aload_n 0, 1) := by decide +kernel
theorem dX4_buyerTurns_1 : decode cX4_buyerTurns 1 = .ok (.bipush 13, 2) := by decide +kernel
theorem dX4_buyerTurns_3 : decode cX4_buyerTurns 3 = .ok (.invokevirtual 32, 3) := by decide +kernel
theorem dX4_buyerTurns_6 : decode cX4_buyerTurns 6 = .ok (.aload_n 0, 1) := by decide +kernel
theorem dX4_buyerTurns_7 : decode cX4_buyerTurns 7 = .ok (.iload_n 1, 1) := by decide +kernel
theorem dX4_buyerTurns_8 : decode cX4_buyerTurns 8 = .ok (.invokevirtual 55, 3) := by decide +kernel
theorem dX4_buyerTurns_11 : decode cX4_buyerTurns 11 = .ok (.bipush 24, 2) := by decide +kernel
theorem dX4_buyerTurns_13 : decode cX4_buyerTurns 13 = .ok (.ixor, 1) := by decide +kernel
theorem dX4_buyerTurns_14 : decode cX4_buyerTurns 14 = .ok (.ireturn, 1) := by decide +kernel
set_option maxHeartbeats 400000 in
set_option maxRecDepth 20000 in
theorem t_X4_buyerTurns (l : Launch) (ad : Nat → Nat) (D : va_G) (cs : Nat → ClassId) (h : Nat → Nat) (σ : Nat → Nat → Int32) (pre post : va_W) (r : Nat) (x : Int32) (hRr : σ 22 0 = nI r) (hr0 : r ≤ 30) : CTi l yX4_buyerTurns cX4_buyerTurns 2 .int ({ frames := 5, cells := 0, slots := 0, locals := 105 }) ad D (tysW cs) (pre ++ (wX cs h σ ++ post)) [.ref (h 60), .int x] (tuPV (σ 23 0) (σ 24 0) (σ 25 0) x) (pre ++ (wX cs h (su (su σ 21 (trB (σ 21) r (tuPC (σ 23 0)))) 22 (fun _ => nI (trR r (tuPC (σ 23 0))))) ++ post)) := by
  refine CTi.of (lv0 := [(0, .ref (h 60)), (1, .int x)]) (by decide) rfl (Nat.le_of_ble_eq_true rfl) (fun p e s m args below meth c A C hr hlk => ?_)
  have C : Cx p s m args c cX4_buyerTurns 2 RX4 ad D (tysW cs) A := C
  refine r_aload_n (pc := 0) C 0 dX4_buyerTurns_0 rfl rfl ?_
  refine r_bipush (pc := 1) C 13 dX4_buyerTurns_1 (by decide) ?_
  refine rc_Vv (pc := 3) C (t_X4_begin' l ad D cs h σ pre post (σ 21) (rfl) (σ 22) (rfl) r (13 : Int32) hRr hr0) mv_X4_begin ml_RX4_32 rfl ⟨Nat.le_of_ble_eq_true rfl, Nat.le_of_ble_eq_true rfl⟩ ⟨rfl, rfl⟩ (q0 := 60) rfl rfl rfl rfl rfl rfl (Nat.le_of_ble_eq_true rfl) dX4_buyerTurns_3 ?_
  refine r_aload_n (pc := 6) C 0 dX4_buyerTurns_6 rfl rfl ?_
  refine r_iload_n (pc := 7) C 1 dX4_buyerTurns_7 rfl rfl ?_
  refine rc_Vi (pc := 8) C (t_X4_pays' l ad D cs h (su (su σ 21 (rnB (σ 21) r (13 : Int32))) 22 (fun _ => nI (rnR r))) pre post (rnB (σ 21) r (13 : Int32)) ((su_nn (by decide)).trans su_at) (fun _ => nI (rnR r)) (su_at) (σ 23) (((su_nn (by decide)).trans (su_nn (by decide)))) (σ 24) (((su_nn (by decide)).trans (su_nn (by decide)))) (σ 25) (((su_nn (by decide)).trans (su_nn (by decide)))) (rnR r) x rfl (rnR_le hr0)) mv_X4_pays ml_RX4_55 rfl ⟨Nat.le_of_ble_eq_true rfl, Nat.le_of_ble_eq_true rfl⟩ ⟨rfl, rfl⟩ (q0 := 60) rfl rfl rfl rfl rfl rfl (Nat.le_of_ble_eq_true rfl) dX4_buyerTurns_8 ?_
  refine r_blk (blk' := wX cs h (su (su σ 21 (trB (rnB (σ 21) r (13 : Int32)) (rnR r) (paC (σ 23 0)))) 22 (fun _ => nI (trR (rnR r) (paC (σ 23 0)))))) (congrArg (wX cs h) (by rw [su_cm (k := 22) (j := 21) (by decide), su_su (k := 21), su_su (k := 22)])) ?_
  refine r_bipush (pc := 11) C 24 dX4_buyerTurns_11 (by decide) ?_
  refine r_ixor (pc := 13) C dX4_buyerTurns_13 ?_
  exact r_iret (pc := 14) C hr hlk dX4_buyerTurns_14 rfl (by first | rfl | (simp [tuPV, *]; done) | simp_all [tuPV]) (by rw [show (trB (σ 21) r (tuPC (σ 23 0)) : Nat → Int32) = trB (rnB (σ 21) r (13 : Int32)) (rnR r) (paC (σ 23 0)) from (by first | rfl | (simp [tuPV, *]; done) | simp_all [tuPV]), show (fun _ => nI (trR r (tuPC (σ 23 0))) : Nat → Int32) = fun _ => nI (trR (rnR r) (paC (σ 23 0))) from (by first | rfl | (simp [tuPV, *]; done) | simp_all [tuPV])] <;> rfl)
theorem t_X4_buyerTurns' (l : Launch) (ad : Nat → Nat) (D : va_G) (cs : Nat → ClassId) (h : Nat → Nat) (σ : Nat → Nat → Int32) (pre post : va_W) (f21_ : Nat → Int32) (e21_ : σ 21 = f21_) (f22_ : Nat → Int32) (e22_ : σ 22 = f22_) (f23_ : Nat → Int32) (e23_ : σ 23 = f23_) (f24_ : Nat → Int32) (e24_ : σ 24 = f24_) (f25_ : Nat → Int32) (e25_ : σ 25 = f25_) (r : Nat) (x : Int32) (hRr : f22_ 0 = nI r) (hr0 : r ≤ 30) : CTi l yX4_buyerTurns cX4_buyerTurns 2 .int ({ frames := 5, cells := 0, slots := 0, locals := 105 }) ad D (tysW cs) (pre ++ (wX cs h σ ++ post)) [.ref (h 60), .int x] (tuPV (f23_ 0) (f24_ 0) (f25_ 0) x) (pre ++ (wX cs h (su (su σ 21 (trB (f21_) r (tuPC (f23_ 0)))) 22 (fun _ => nI (trR r (tuPC (f23_ 0))))) ++ post)) := by
  subst e21_; subst e22_; subst e23_; subst e24_; subst e25_
  exact t_X4_buyerTurns l ad D cs h σ pre post r x hRr hr0
theorem dX4_turns_0 : decode cX4_turns 0 = .ok (.aload_n 0, 1) := by decide +kernel
theorem dX4_turns_1 : decode cX4_turns 1 = .ok (.getfield 23, 3) := by decide +kernel
theorem dX4_turns_4 : decode cX4_turns 4 = .ok (.tableswitch 67 2 5 #[32, 67, 32, 53], 32) := by decide +kernel
theorem dX4_turns_36 : decode cX4_turns 36 = .ok (.aload_n 0, 1) := by decide +kernel
theorem dX4_turns_37 : decode cX4_turns 37 = .ok (.bipush 31, 2) := by decide +kernel
theorem dX4_turns_39 : decode cX4_turns 39 = .ok (.invokevirtual 32, 3) := by decide +kernel
theorem dX4_turns_42 : decode cX4_turns 42 = .ok (.aload_n 0, 1) := by decide +kernel
theorem dX4_turns_43 : decode cX4_turns 43 = .ok (.iload_n 1, 1) := by decide +kernel
theorem dX4_turns_44 : decode cX4_turns 44 = .ok (.invokevirtual 49, 3) := by decide +kernel
theorem dX4_turns_47 : decode cX4_turns 47 = .ok (.aload_n 0, 1) := by decide +kernel
theorem dX4_turns_48 : decode cX4_turns 48 = .ok (.aload_n 0, 1) := by decide +kernel
theorem dX4_turns_49 : decode cX4_turns 49 = .ok (.getfield 26, 3) := by decide +kernel
theorem dX4_turns_52 : decode cX4_turns 52 = .ok (.invokevirtual 52, 3) := by decide +kernel
theorem dX4_turns_55 : decode cX4_turns 55 = .ok (.iadd, 1) := by decide +kernel
theorem dX4_turns_56 : decode cX4_turns 56 = .ok (.ireturn, 1) := by decide +kernel
theorem dX4_turns_57 : decode cX4_turns 57 = .ok (.aload_n 0, 1) := by decide +kernel
theorem dX4_turns_58 : decode cX4_turns 58 = .ok (.bipush 60, 2) := by decide +kernel
theorem dX4_turns_60 : decode cX4_turns 60 = .ok (.invokevirtual 32, 3) := by decide +kernel
theorem dX4_turns_63 : decode cX4_turns 63 = .ok (.aload_n 0, 1) := by decide +kernel
theorem dX4_turns_64 : decode cX4_turns 64 = .ok (.iload_n 1, 1) := by decide +kernel
theorem dX4_turns_65 : decode cX4_turns 65 = .ok (.invokevirtual 49, 3) := by decide +kernel
theorem dX4_turns_68 : decode cX4_turns 68 = .ok (.iconst 5, 1) := by decide +kernel
theorem dX4_turns_69 : decode cX4_turns 69 = .ok (.imul, 1) := by decide +kernel
theorem dX4_turns_70 : decode cX4_turns 70 = .ok (.ireturn, 1) := by decide +kernel
theorem dX4_turns_71 : decode cX4_turns 71 = .ok (.aload_n 0, 1) := by decide +kernel
theorem dX4_turns_72 : decode cX4_turns 72 = .ok (.iload_n 1, 1) := by decide +kernel
theorem dX4_turns_73 : decode cX4_turns 73 = .ok (.invokevirtual 49, 3) := by decide +kernel
theorem dX4_turns_76 : decode cX4_turns 76 = .ok (.ireturn, 1) := by decide +kernel
set_option maxHeartbeats 400000 in
set_option maxRecDepth 20000 in
theorem t_X4_turns (l : Launch) (ad : Nat → Nat) (D : va_G) (cs : Nat → ClassId) (h : Nat → Nat) (σ : Nat → Nat → Int32) (pre post : va_W) (r : Nat) (x : Int32) (hRr : σ 22 0 = nI r) (hr0 : r ≤ 30) (hP : σ 26 0 = nI 0) : CTi l yX4_turns cX4_turns 2 .int ({ frames := 6, cells := 0, slots := 0, locals := 126 }) ad D (tysW cs) (pre ++ (wX cs h σ ++ post)) [.ref (h 60), .int x] (tuV (σ 23 0) (σ 24 0) (σ 25 0) x) (pre ++ (wX cs h (su (su (su σ 21 (trB (σ 21) r (tuC (σ 23 0) (σ 24 0) (σ 25 0)))) 22 (fun _ => nI (trR r (tuC (σ 23 0) (σ 24 0) (σ 25 0))))) 26 (fun _ => tuD (σ 23 0) (σ 24 0) (σ 25 0))) ++ post)) := by
  refine CTi.of (lv0 := [(0, .ref (h 60)), (1, .int x)]) (by decide) rfl (Nat.le_of_ble_eq_true rfl) (fun p e s m args below meth c A C hr hlk => ?_)
  have C : Cx p s m args c cX4_turns 2 RX4 ad D (tysW cs) A := C
  refine r_aload_n (pc := 0) C 0 dX4_turns_0 rfl rfl ?_
  refine xg_h_kind (pc := 1) C fl_RX4_23 dX4_turns_1 (σ 23 0) rfl ?_
  have w_1 := sw_cases (σ 23 0) 2 5 (by decide)
  rcases w_1 with w_1 | w_1
  · skip
    refine r_tableOut (pc := 4) C 32 71 dX4_turns_4 w_1 (by decide) ?_
    have w_1_2 : ¬ (σ 23 0) = 2 := fun q => by rw [q] at w_1; revert w_1; decide
    have w_1_3 : ¬ (σ 23 0) = 3 := fun q => by rw [q] at w_1; revert w_1; decide
    have w_1_4 : ¬ (σ 23 0) = 4 := fun q => by rw [q] at w_1; revert w_1; decide
    have w_1_5 : ¬ (σ 23 0) = 5 := fun q => by rw [q] at w_1; revert w_1; decide
    refine r_aload_n (pc := 71) C 0 dX4_turns_71 rfl rfl ?_
    refine r_iload_n (pc := 72) C 1 dX4_turns_72 rfl rfl ?_
    refine rc_Vi (pc := 73) C (t_X4_buyerTurns' l ad D cs h σ pre post (σ 21) (rfl) (σ 22) (rfl) (σ 23) (rfl) (σ 24) (rfl) (σ 25) (rfl) r x hRr hr0) mv_X4_buyerTurns ml_RX4_49 rfl ⟨Nat.le_of_ble_eq_true rfl, Nat.le_of_ble_eq_true rfl⟩ ⟨rfl, rfl⟩ (q0 := 60) rfl rfl rfl rfl rfl rfl (Nat.le_of_ble_eq_true rfl) dX4_turns_73 ?_
    exact r_iret (pc := 76) C hr hlk dX4_turns_76 rfl (by first | rfl | (simp [nI_0, tuV, tuC, tuD, trB, trR, trB_app, trR_app, *]; done) | simp_all [nI_0, tuV, tuC, tuD, trB, trR, trB_app, trR_app]) (by rw [show (trB (σ 21) r (tuC (σ 23 0) (σ 24 0) (σ 25 0)) : Nat → Int32) = trB (σ 21) r (tuPC (σ 23 0)) from (by first | rfl | (simp [nI_0, tuV, tuC, tuD, trB, trR, trB_app, trR_app, *]; done) | simp_all [nI_0, tuV, tuC, tuD, trB, trR, trB_app, trR_app]), show (fun _ => nI (trR r (tuC (σ 23 0) (σ 24 0) (σ 25 0))) : Nat → Int32) = fun _ => nI (trR r (tuPC (σ 23 0))) from (by first | rfl | (simp [nI_0, tuV, tuC, tuD, trB, trR, trB_app, trR_app, *]; done) | simp_all [nI_0, tuV, tuC, tuD, trB, trR, trB_app, trR_app]), show (fun _ => tuD (σ 23 0) (σ 24 0) (σ 25 0) : Nat → Int32) = fun _ => σ 26 0 from (by first | rfl | (simp [nI_0, tuV, tuC, tuD, trB, trR, trB_app, trR_app, *]; done) | simp_all [nI_0, tuV, tuC, tuD, trB, trR, trB_app, trR_app])] <;> rfl)
  · obtain ⟨i_1, hi_1, w_1⟩ := w_1
    have hc_1 : i_1 = 0 ∨ i_1 = 1 ∨ i_1 = 2 ∨ i_1 = 3 := by omega
    rcases hc_1 with rfl | rfl | rfl | rfl
    · skip
      refine r_tableIn (pc := 4) C 32 36 dX4_turns_4 (by rw [w_1]; decide) (by rw [w_1]; decide) (by rw [w_1]; rfl) (by decide) ?_
      have w_1 : σ 23 0 = 2 := Int32.toInt_inj.mp (by rw [w_1]; rfl)
      refine r_aload_n (pc := 36) C 0 dX4_turns_36 rfl rfl ?_
      refine r_bipush (pc := 37) C 31 dX4_turns_37 (by decide) ?_
      refine rc_Vv (pc := 39) C (t_X4_begin' l ad D cs h σ pre post (σ 21) (rfl) (σ 22) (rfl) r (31 : Int32) hRr hr0) mv_X4_begin ml_RX4_32 rfl ⟨Nat.le_of_ble_eq_true rfl, Nat.le_of_ble_eq_true rfl⟩ ⟨rfl, rfl⟩ (q0 := 60) rfl rfl rfl rfl rfl rfl (Nat.le_of_ble_eq_true rfl) dX4_turns_39 ?_
      refine r_aload_n (pc := 42) C 0 dX4_turns_42 rfl rfl ?_
      refine r_iload_n (pc := 43) C 1 dX4_turns_43 rfl rfl ?_
      refine rc_Vi (pc := 44) C (t_X4_buyerTurns' l ad D cs h (su (su σ 21 (rnB (σ 21) r (31 : Int32))) 22 (fun _ => nI (rnR r))) pre post (rnB (σ 21) r (31 : Int32)) ((su_nn (by decide)).trans su_at) (fun _ => nI (rnR r)) (su_at) (σ 23) (((su_nn (by decide)).trans (su_nn (by decide)))) (σ 24) (((su_nn (by decide)).trans (su_nn (by decide)))) (σ 25) (((su_nn (by decide)).trans (su_nn (by decide)))) (rnR r) x rfl (rnR_le hr0)) mv_X4_buyerTurns ml_RX4_49 rfl ⟨Nat.le_of_ble_eq_true rfl, Nat.le_of_ble_eq_true rfl⟩ ⟨rfl, rfl⟩ (q0 := 60) rfl rfl rfl rfl rfl rfl (Nat.le_of_ble_eq_true rfl) dX4_turns_44 ?_
      refine r_blk (blk' := wX cs h (su (su σ 21 (trB (rnB (σ 21) r (31 : Int32)) (rnR r) (tuPC (σ 23 0)))) 22 (fun _ => nI (trR (rnR r) (tuPC (σ 23 0)))))) (congrArg (wX cs h) (by rw [su_cm (k := 22) (j := 21) (by decide), su_su (k := 21), su_su (k := 22)])) ?_
      refine r_aload_n (pc := 47) C 0 dX4_turns_47 rfl rfl ?_
      refine r_aload_n (pc := 48) C 0 dX4_turns_48 rfl rfl ?_
      refine xg_h_n (pc := 49) C fl_RX4_26 dX4_turns_49 (σ 24 0) (congrFun (((su_nn (by decide)).trans (su_nn (by decide)))) 0) ?_
      refine rc_Vi (pc := 52) C (t_X4_parts' l ad D cs h (su (su σ 21 (trB (rnB (σ 21) r (31 : Int32)) (rnR r) (tuPC (σ 23 0)))) 22 (fun _ => nI (trR (rnR r) (tuPC (σ 23 0))))) pre post (trB (rnB (σ 21) r (31 : Int32)) (rnR r) (tuPC (σ 23 0))) ((su_nn (by decide)).trans su_at) (fun _ => nI (trR (rnR r) (tuPC (σ 23 0)))) (su_at) (σ 23) (((su_nn (by decide)).trans (su_nn (by decide)))) (σ 24) (((su_nn (by decide)).trans (su_nn (by decide)))) (σ 25) (((su_nn (by decide)).trans (su_nn (by decide)))) (σ 26) (((su_nn (by decide)).trans (su_nn (by decide)))) (trR (rnR r) (tuPC (σ 23 0))) (σ 24 0) rfl (trR_le (rnR_le hr0) _) hP) mv_X4_parts ml_RX4_52 rfl ⟨Nat.le_of_ble_eq_true rfl, Nat.le_of_ble_eq_true rfl⟩ ⟨rfl, rfl⟩ (q0 := 60) rfl rfl rfl rfl rfl rfl (Nat.le_of_ble_eq_true rfl) dX4_turns_52 ?_
      refine r_blk (blk' := wX cs h (su (su (su σ 21 (trB (trB (rnB (σ 21) r (31 : Int32)) (rnR r) (tuPC (σ 23 0))) (trR (rnR r) (tuPC (σ 23 0))) (ptC (σ 23 0) (σ 24 0) (σ 25 0)))) 22 (fun _ => nI (trR (trR (rnR r) (tuPC (σ 23 0))) (ptC (σ 23 0) (σ 24 0) (σ 25 0))))) 26 (fun _ => ptD (σ 24 0) (σ 25 0)))) (congrArg (wX cs h) (by rw [su_cm (k := 22) (j := 21) (by decide), su_su (k := 21), su_su (k := 22)])) ?_
      refine r_iadd (pc := 55) C dX4_turns_55 ?_
      exact r_iret (pc := 56) C hr hlk dX4_turns_56 rfl (by first | rfl | (simp [nI_0, tuV, tuC, tuD, trB, trR, trB_app, trR_app, *]; done) | simp_all [nI_0, tuV, tuC, tuD, trB, trR, trB_app, trR_app]) (by rw [show (trB (σ 21) r (tuC (σ 23 0) (σ 24 0) (σ 25 0)) : Nat → Int32) = trB (trB (rnB (σ 21) r (31 : Int32)) (rnR r) (tuPC (σ 23 0))) (trR (rnR r) (tuPC (σ 23 0))) (ptC (σ 23 0) (σ 24 0) (σ 25 0)) from (by first | rfl | (simp [nI_0, tuV, tuC, tuD, trB, trR, trB_app, trR_app, *]; done) | simp_all [nI_0, tuV, tuC, tuD, trB, trR, trB_app, trR_app]), show (fun _ => nI (trR r (tuC (σ 23 0) (σ 24 0) (σ 25 0))) : Nat → Int32) = fun _ => nI (trR (trR (rnR r) (tuPC (σ 23 0))) (ptC (σ 23 0) (σ 24 0) (σ 25 0))) from (by first | rfl | (simp [nI_0, tuV, tuC, tuD, trB, trR, trB_app, trR_app, *]; done) | simp_all [nI_0, tuV, tuC, tuD, trB, trR, trB_app, trR_app]), show (fun _ => tuD (σ 23 0) (σ 24 0) (σ 25 0) : Nat → Int32) = fun _ => ptD (σ 24 0) (σ 25 0) from (by first | rfl | (simp [nI_0, tuV, tuC, tuD, trB, trR, trB_app, trR_app, *]; done) | simp_all [nI_0, tuV, tuC, tuD, trB, trR, trB_app, trR_app])] <;> rfl)
    · skip
      refine r_tableIn (pc := 4) C 32 71 dX4_turns_4 (by rw [w_1]; decide) (by rw [w_1]; decide) (by rw [w_1]; rfl) (by decide) ?_
      have w_1 : σ 23 0 = 3 := Int32.toInt_inj.mp (by rw [w_1]; rfl)
      refine r_aload_n (pc := 71) C 0 dX4_turns_71 rfl rfl ?_
      refine r_iload_n (pc := 72) C 1 dX4_turns_72 rfl rfl ?_
      refine rc_Vi (pc := 73) C (t_X4_buyerTurns' l ad D cs h σ pre post (σ 21) (rfl) (σ 22) (rfl) (σ 23) (rfl) (σ 24) (rfl) (σ 25) (rfl) r x hRr hr0) mv_X4_buyerTurns ml_RX4_49 rfl ⟨Nat.le_of_ble_eq_true rfl, Nat.le_of_ble_eq_true rfl⟩ ⟨rfl, rfl⟩ (q0 := 60) rfl rfl rfl rfl rfl rfl (Nat.le_of_ble_eq_true rfl) dX4_turns_73 ?_
      exact r_iret (pc := 76) C hr hlk dX4_turns_76 rfl (by first | rfl | (simp [nI_0, tuV, tuC, tuD, trB, trR, trB_app, trR_app, *]; done) | simp_all [nI_0, tuV, tuC, tuD, trB, trR, trB_app, trR_app]) (by rw [show (trB (σ 21) r (tuC (σ 23 0) (σ 24 0) (σ 25 0)) : Nat → Int32) = trB (σ 21) r (tuPC (σ 23 0)) from (by first | rfl | (simp [nI_0, tuV, tuC, tuD, trB, trR, trB_app, trR_app, *]; done) | simp_all [nI_0, tuV, tuC, tuD, trB, trR, trB_app, trR_app]), show (fun _ => nI (trR r (tuC (σ 23 0) (σ 24 0) (σ 25 0))) : Nat → Int32) = fun _ => nI (trR r (tuPC (σ 23 0))) from (by first | rfl | (simp [nI_0, tuV, tuC, tuD, trB, trR, trB_app, trR_app, *]; done) | simp_all [nI_0, tuV, tuC, tuD, trB, trR, trB_app, trR_app]), show (fun _ => tuD (σ 23 0) (σ 24 0) (σ 25 0) : Nat → Int32) = fun _ => σ 26 0 from (by first | rfl | (simp [nI_0, tuV, tuC, tuD, trB, trR, trB_app, trR_app, *]; done) | simp_all [nI_0, tuV, tuC, tuD, trB, trR, trB_app, trR_app])] <;> rfl)
    · skip
      refine r_tableIn (pc := 4) C 32 36 dX4_turns_4 (by rw [w_1]; decide) (by rw [w_1]; decide) (by rw [w_1]; rfl) (by decide) ?_
      have w_1 : σ 23 0 = 4 := Int32.toInt_inj.mp (by rw [w_1]; rfl)
      refine r_aload_n (pc := 36) C 0 dX4_turns_36 rfl rfl ?_
      refine r_bipush (pc := 37) C 31 dX4_turns_37 (by decide) ?_
      refine rc_Vv (pc := 39) C (t_X4_begin' l ad D cs h σ pre post (σ 21) (rfl) (σ 22) (rfl) r (31 : Int32) hRr hr0) mv_X4_begin ml_RX4_32 rfl ⟨Nat.le_of_ble_eq_true rfl, Nat.le_of_ble_eq_true rfl⟩ ⟨rfl, rfl⟩ (q0 := 60) rfl rfl rfl rfl rfl rfl (Nat.le_of_ble_eq_true rfl) dX4_turns_39 ?_
      refine r_aload_n (pc := 42) C 0 dX4_turns_42 rfl rfl ?_
      refine r_iload_n (pc := 43) C 1 dX4_turns_43 rfl rfl ?_
      refine rc_Vi (pc := 44) C (t_X4_buyerTurns' l ad D cs h (su (su σ 21 (rnB (σ 21) r (31 : Int32))) 22 (fun _ => nI (rnR r))) pre post (rnB (σ 21) r (31 : Int32)) ((su_nn (by decide)).trans su_at) (fun _ => nI (rnR r)) (su_at) (σ 23) (((su_nn (by decide)).trans (su_nn (by decide)))) (σ 24) (((su_nn (by decide)).trans (su_nn (by decide)))) (σ 25) (((su_nn (by decide)).trans (su_nn (by decide)))) (rnR r) x rfl (rnR_le hr0)) mv_X4_buyerTurns ml_RX4_49 rfl ⟨Nat.le_of_ble_eq_true rfl, Nat.le_of_ble_eq_true rfl⟩ ⟨rfl, rfl⟩ (q0 := 60) rfl rfl rfl rfl rfl rfl (Nat.le_of_ble_eq_true rfl) dX4_turns_44 ?_
      refine r_blk (blk' := wX cs h (su (su σ 21 (trB (rnB (σ 21) r (31 : Int32)) (rnR r) (tuPC (σ 23 0)))) 22 (fun _ => nI (trR (rnR r) (tuPC (σ 23 0)))))) (congrArg (wX cs h) (by rw [su_cm (k := 22) (j := 21) (by decide), su_su (k := 21), su_su (k := 22)])) ?_
      refine r_aload_n (pc := 47) C 0 dX4_turns_47 rfl rfl ?_
      refine r_aload_n (pc := 48) C 0 dX4_turns_48 rfl rfl ?_
      refine xg_h_n (pc := 49) C fl_RX4_26 dX4_turns_49 (σ 24 0) (congrFun (((su_nn (by decide)).trans (su_nn (by decide)))) 0) ?_
      refine rc_Vi (pc := 52) C (t_X4_parts' l ad D cs h (su (su σ 21 (trB (rnB (σ 21) r (31 : Int32)) (rnR r) (tuPC (σ 23 0)))) 22 (fun _ => nI (trR (rnR r) (tuPC (σ 23 0))))) pre post (trB (rnB (σ 21) r (31 : Int32)) (rnR r) (tuPC (σ 23 0))) ((su_nn (by decide)).trans su_at) (fun _ => nI (trR (rnR r) (tuPC (σ 23 0)))) (su_at) (σ 23) (((su_nn (by decide)).trans (su_nn (by decide)))) (σ 24) (((su_nn (by decide)).trans (su_nn (by decide)))) (σ 25) (((su_nn (by decide)).trans (su_nn (by decide)))) (σ 26) (((su_nn (by decide)).trans (su_nn (by decide)))) (trR (rnR r) (tuPC (σ 23 0))) (σ 24 0) rfl (trR_le (rnR_le hr0) _) hP) mv_X4_parts ml_RX4_52 rfl ⟨Nat.le_of_ble_eq_true rfl, Nat.le_of_ble_eq_true rfl⟩ ⟨rfl, rfl⟩ (q0 := 60) rfl rfl rfl rfl rfl rfl (Nat.le_of_ble_eq_true rfl) dX4_turns_52 ?_
      refine r_blk (blk' := wX cs h (su (su (su σ 21 (trB (trB (rnB (σ 21) r (31 : Int32)) (rnR r) (tuPC (σ 23 0))) (trR (rnR r) (tuPC (σ 23 0))) (ptC (σ 23 0) (σ 24 0) (σ 25 0)))) 22 (fun _ => nI (trR (trR (rnR r) (tuPC (σ 23 0))) (ptC (σ 23 0) (σ 24 0) (σ 25 0))))) 26 (fun _ => ptD (σ 24 0) (σ 25 0)))) (congrArg (wX cs h) (by rw [su_cm (k := 22) (j := 21) (by decide), su_su (k := 21), su_su (k := 22)])) ?_
      refine r_iadd (pc := 55) C dX4_turns_55 ?_
      exact r_iret (pc := 56) C hr hlk dX4_turns_56 rfl (by first | rfl | (simp [nI_0, tuV, tuC, tuD, trB, trR, trB_app, trR_app, *]; done) | simp_all [nI_0, tuV, tuC, tuD, trB, trR, trB_app, trR_app]) (by rw [show (trB (σ 21) r (tuC (σ 23 0) (σ 24 0) (σ 25 0)) : Nat → Int32) = trB (trB (rnB (σ 21) r (31 : Int32)) (rnR r) (tuPC (σ 23 0))) (trR (rnR r) (tuPC (σ 23 0))) (ptC (σ 23 0) (σ 24 0) (σ 25 0)) from (by first | rfl | (simp [nI_0, tuV, tuC, tuD, trB, trR, trB_app, trR_app, *]; done) | simp_all [nI_0, tuV, tuC, tuD, trB, trR, trB_app, trR_app]), show (fun _ => nI (trR r (tuC (σ 23 0) (σ 24 0) (σ 25 0))) : Nat → Int32) = fun _ => nI (trR (trR (rnR r) (tuPC (σ 23 0))) (ptC (σ 23 0) (σ 24 0) (σ 25 0))) from (by first | rfl | (simp [nI_0, tuV, tuC, tuD, trB, trR, trB_app, trR_app, *]; done) | simp_all [nI_0, tuV, tuC, tuD, trB, trR, trB_app, trR_app]), show (fun _ => tuD (σ 23 0) (σ 24 0) (σ 25 0) : Nat → Int32) = fun _ => ptD (σ 24 0) (σ 25 0) from (by first | rfl | (simp [nI_0, tuV, tuC, tuD, trB, trR, trB_app, trR_app, *]; done) | simp_all [nI_0, tuV, tuC, tuD, trB, trR, trB_app, trR_app])] <;> rfl)
    · skip
      refine r_tableIn (pc := 4) C 32 57 dX4_turns_4 (by rw [w_1]; decide) (by rw [w_1]; decide) (by rw [w_1]; rfl) (by decide) ?_
      have w_1 : σ 23 0 = 5 := Int32.toInt_inj.mp (by rw [w_1]; rfl)
      refine r_aload_n (pc := 57) C 0 dX4_turns_57 rfl rfl ?_
      refine r_bipush (pc := 58) C 60 dX4_turns_58 (by decide) ?_
      refine rc_Vv (pc := 60) C (t_X4_begin' l ad D cs h σ pre post (σ 21) (rfl) (σ 22) (rfl) r (60 : Int32) hRr hr0) mv_X4_begin ml_RX4_32 rfl ⟨Nat.le_of_ble_eq_true rfl, Nat.le_of_ble_eq_true rfl⟩ ⟨rfl, rfl⟩ (q0 := 60) rfl rfl rfl rfl rfl rfl (Nat.le_of_ble_eq_true rfl) dX4_turns_60 ?_
      refine r_aload_n (pc := 63) C 0 dX4_turns_63 rfl rfl ?_
      refine r_iload_n (pc := 64) C 1 dX4_turns_64 rfl rfl ?_
      refine rc_Vi (pc := 65) C (t_X4_buyerTurns' l ad D cs h (su (su σ 21 (rnB (σ 21) r (60 : Int32))) 22 (fun _ => nI (rnR r))) pre post (rnB (σ 21) r (60 : Int32)) ((su_nn (by decide)).trans su_at) (fun _ => nI (rnR r)) (su_at) (σ 23) (((su_nn (by decide)).trans (su_nn (by decide)))) (σ 24) (((su_nn (by decide)).trans (su_nn (by decide)))) (σ 25) (((su_nn (by decide)).trans (su_nn (by decide)))) (rnR r) x rfl (rnR_le hr0)) mv_X4_buyerTurns ml_RX4_49 rfl ⟨Nat.le_of_ble_eq_true rfl, Nat.le_of_ble_eq_true rfl⟩ ⟨rfl, rfl⟩ (q0 := 60) rfl rfl rfl rfl rfl rfl (Nat.le_of_ble_eq_true rfl) dX4_turns_65 ?_
      refine r_blk (blk' := wX cs h (su (su σ 21 (trB (rnB (σ 21) r (60 : Int32)) (rnR r) (tuPC (σ 23 0)))) 22 (fun _ => nI (trR (rnR r) (tuPC (σ 23 0)))))) (congrArg (wX cs h) (by rw [su_cm (k := 22) (j := 21) (by decide), su_su (k := 21), su_su (k := 22)])) ?_
      refine r_iconst (pc := 68) C 5 dX4_turns_68 (by decide) ?_
      refine r_imul (pc := 69) C dX4_turns_69 ?_
      exact r_iret (pc := 70) C hr hlk dX4_turns_70 rfl (by first | rfl | (simp [nI_0, tuV, tuC, tuD, trB, trR, trB_app, trR_app, *]; done) | simp_all [nI_0, tuV, tuC, tuD, trB, trR, trB_app, trR_app]) (by rw [show (trB (σ 21) r (tuC (σ 23 0) (σ 24 0) (σ 25 0)) : Nat → Int32) = trB (rnB (σ 21) r (60 : Int32)) (rnR r) (tuPC (σ 23 0)) from (by first | rfl | (simp [nI_0, tuV, tuC, tuD, trB, trR, trB_app, trR_app, *]; done) | simp_all [nI_0, tuV, tuC, tuD, trB, trR, trB_app, trR_app]), show (fun _ => nI (trR r (tuC (σ 23 0) (σ 24 0) (σ 25 0))) : Nat → Int32) = fun _ => nI (trR (rnR r) (tuPC (σ 23 0))) from (by first | rfl | (simp [nI_0, tuV, tuC, tuD, trB, trR, trB_app, trR_app, *]; done) | simp_all [nI_0, tuV, tuC, tuD, trB, trR, trB_app, trR_app]), show (fun _ => tuD (σ 23 0) (σ 24 0) (σ 25 0) : Nat → Int32) = fun _ => σ 26 0 from (by first | rfl | (simp [nI_0, tuV, tuC, tuD, trB, trR, trB_app, trR_app, *]; done) | simp_all [nI_0, tuV, tuC, tuD, trB, trR, trB_app, trR_app])] <;> rfl)
theorem t_X4_turns' (l : Launch) (ad : Nat → Nat) (D : va_G) (cs : Nat → ClassId) (h : Nat → Nat) (σ : Nat → Nat → Int32) (pre post : va_W) (f21_ : Nat → Int32) (e21_ : σ 21 = f21_) (f22_ : Nat → Int32) (e22_ : σ 22 = f22_) (f23_ : Nat → Int32) (e23_ : σ 23 = f23_) (f24_ : Nat → Int32) (e24_ : σ 24 = f24_) (f25_ : Nat → Int32) (e25_ : σ 25 = f25_) (f26_ : Nat → Int32) (e26_ : σ 26 = f26_) (r : Nat) (x : Int32) (hRr : f22_ 0 = nI r) (hr0 : r ≤ 30) (hP : f26_ 0 = nI 0) : CTi l yX4_turns cX4_turns 2 .int ({ frames := 6, cells := 0, slots := 0, locals := 126 }) ad D (tysW cs) (pre ++ (wX cs h σ ++ post)) [.ref (h 60), .int x] (tuV (f23_ 0) (f24_ 0) (f25_ 0) x) (pre ++ (wX cs h (su (su (su σ 21 (trB (f21_) r (tuC (f23_ 0) (f24_ 0) (f25_ 0)))) 22 (fun _ => nI (trR r (tuC (f23_ 0) (f24_ 0) (f25_ 0))))) 26 (fun _ => tuD (f23_ 0) (f24_ 0) (f25_ 0))) ++ post)) := by
  subst e21_; subst e22_; subst e23_; subst e24_; subst e25_; subst e26_
  exact t_X4_turns l ad D cs h σ pre post r x hRr hr0 hP
theorem dX4_forgetTrace_0 : decode cX4_forgetTrace 0 = .ok (.aload_n 0, 1) := by decide +kernel
theorem dX4_forgetTrace_1 : decode cX4_forgetTrace 1 = .ok (.iconst 0, 1) := by decide +kernel
theorem dX4_forgetTrace_2 : decode cX4_forgetTrace 2 = .ok (.putfield 15, 3) := by decide +kernel
theorem dX4_forgetTrace_5 : decode cX4_forgetTrace 5 = .ok (.aload_n 0, 1) := by decide +kernel
theorem dX4_forgetTrace_6 : decode cX4_forgetTrace 6 = .ok (.iconst 0, 1) := by decide +kernel
theorem dX4_forgetTrace_7 : decode cX4_forgetTrace 7 = .ok (.putfield 19, 3) := by decide +kernel
theorem dX4_forgetTrace_10 : decode cX4_forgetTrace 10 = .ok (.return_, 1) := by decide +kernel
set_option maxHeartbeats 400000 in
set_option maxRecDepth 20000 in
theorem t_X4_forgetTrace (l : Launch) (ad : Nat → Nat) (D : va_G) (cs : Nat → ClassId) (h : Nat → Nat) (σ : Nat → Nat → Int32) (pre post : va_W)   : CTv l yX4_forgetTrace cX4_forgetTrace 1 ({ frames := 0, cells := 0, slots := 0, locals := 0 }) ad D (tysW cs) (pre ++ (wX cs h σ ++ post)) [.ref (h 60)] (pre ++ (wX cs h (su (su σ 22 (fun _ => 0)) 26 (fun _ => 0)) ++ post)) := by
  refine CTv.of (lv0 := [(0, .ref (h 60))]) (by decide) rfl (Nat.le_of_ble_eq_true rfl) (fun p e s m args below meth c A C hr hlk => ?_)
  have C : Cx p s m args c cX4_forgetTrace 1 RX4 ad D (tysW cs) A := C
  refine r_aload_n (pc := 0) C 0 dX4_forgetTrace_0 rfl rfl ?_
  refine r_iconst (pc := 1) C 0 dX4_forgetTrace_1 (by decide) ?_
  refine xp_h_traceLength (pc := 2) C fl_RX4_15 dX4_forgetTrace_2 ?_
  refine r_aload_n (pc := 5) C 0 dX4_forgetTrace_5 rfl rfl ?_
  refine r_iconst (pc := 6) C 0 dX4_forgetTrace_6 (by decide) ?_
  refine xp_h_isPartedBy0 (pc := 7) C fl_RX4_19 dX4_forgetTrace_7 rfl rfl ?_
  exact r_vret (pc := 10) C hr hlk dX4_forgetTrace_10 rfl
theorem dX4_become_0 : decode cX4_become 0 = .ok (.aload_n 0, 1) := by decide +kernel
theorem dX4_become_1 : decode cX4_become 1 = .ok (.iload_n 1, 1) := by decide +kernel
theorem dX4_become_2 : decode cX4_become 2 = .ok (.putfield 23, 3) := by decide +kernel
theorem dX4_become_5 : decode cX4_become 5 = .ok (.aload_n 0, 1) := by decide +kernel
theorem dX4_become_6 : decode cX4_become 6 = .ok (.iload_n 2, 1) := by decide +kernel
theorem dX4_become_7 : decode cX4_become 7 = .ok (.putfield 26, 3) := by decide +kernel
theorem dX4_become_10 : decode cX4_become 10 = .ok (.aload_n 0, 1) := by decide +kernel
theorem dX4_become_11 : decode cX4_become 11 = .ok (.iload_n 3, 1) := by decide +kernel
theorem dX4_become_12 : decode cX4_become 12 = .ok (.putfield 29, 3) := by decide +kernel
theorem dX4_become_15 : decode cX4_become 15 = .ok (.return_, 1) := by decide +kernel
set_option maxHeartbeats 400000 in
set_option maxRecDepth 20000 in
theorem t_X4_become (l : Launch) (ad : Nat → Nat) (D : va_G) (cs : Nat → ClassId) (h : Nat → Nat) (σ : Nat → Nat → Int32) (pre post : va_W) (x y z : Int32)  : CTv l yX4_become cX4_become 4 ({ frames := 0, cells := 0, slots := 0, locals := 0 }) ad D (tysW cs) (pre ++ (wX cs h σ ++ post)) [.ref (h 60), .int x, .int y, .int z] (pre ++ (wX cs h (su (su (su σ 23 (fun _ => x)) 24 (fun _ => y)) 25 (fun _ => z)) ++ post)) := by
  refine CTv.of (lv0 := [(0, .ref (h 60)), (1, .int x), (2, .int y), (3, .int z)]) (by decide) rfl (Nat.le_of_ble_eq_true rfl) (fun p e s m args below meth c A C hr hlk => ?_)
  have C : Cx p s m args c cX4_become 4 RX4 ad D (tysW cs) A := C
  refine r_aload_n (pc := 0) C 0 dX4_become_0 rfl rfl ?_
  refine r_iload_n (pc := 1) C 1 dX4_become_1 rfl rfl ?_
  refine xp_h_kind (pc := 2) C fl_RX4_23 dX4_become_2 ?_
  refine r_aload_n (pc := 5) C 0 dX4_become_5 rfl rfl ?_
  refine r_iload_n (pc := 6) C 2 dX4_become_6 rfl rfl ?_
  refine xp_h_n (pc := 7) C fl_RX4_26 dX4_become_7 ?_
  refine r_aload_n (pc := 10) C 0 dX4_become_10 rfl rfl ?_
  refine r_iload_n (pc := 11) C 3 dX4_become_11 rfl rfl ?_
  refine xp_h_a (pc := 12) C fl_RX4_29 dX4_become_12 ?_
  exact r_vret (pc := 15) C hr hlk dX4_become_15 rfl
