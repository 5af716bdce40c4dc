theorem dX6_paired_0 : decode cX6_paired 0 = .ok (.aload_n 0, 1) := by decide +kernel
theorem dX6_paired_1 : decode cX6_paired 1 = .ok (.getfield 25, 3) := by decide +kernel
theorem dX6_paired_4 : decode cX6_paired 4 = .ok (.iconst 0, 1) := by decide +kernel
theorem dX6_paired_5 : decode cX6_paired 5 = .ok (.iconst 0, 1) := by decide +kernel
theorem dX6_paired_6 : decode cX6_paired 6 = .ok (.iastore, 1) := by decide +kernel
theorem dX6_paired_7 : decode cX6_paired 7 = .ok (.iconst 1, 1) := by decide +kernel
theorem dX6_paired_8 : decode cX6_paired 8 = .ok (.istore_n 1, 1) := by decide +kernel
theorem dX6_paired_9 : decode cX6_paired 9 = .ok (.iload_n 1, 1) := by decide +kernel
theorem dX6_paired_10 : decode cX6_paired 10 = .ok (.iconst 1, 1) := by decide +kernel
theorem dX6_paired_11 : decode cX6_paired 11 = .ok (.aload_n 0, 1) := by decide +kernel
theorem dX6_paired_12 : decode cX6_paired 12 = .ok (.getfield 7, 3) := by decide +kernel
theorem dX6_paired_15 : decode cX6_paired 15 = .ok (.iconst 0, 1) := by decide +kernel
theorem dX6_paired_16 : decode cX6_paired 16 = .ok (.iaload, 1) := by decide +kernel
theorem dX6_paired_17 : decode cX6_paired 17 = .ok (.ishl, 1) := by decide +kernel
theorem dX6_paired_18 : decode cX6_paired 18 = .ok (.if_icmp .ge 111, 3) := by decide +kernel
theorem dX6_paired_21 : decode cX6_paired 21 = .ok (.iconst 0, 1) := by decide +kernel
theorem dX6_paired_22 : decode cX6_paired 22 = .ok (.istore_n 2, 1) := by decide +kernel
theorem dX6_paired_23 : decode cX6_paired 23 = .ok (.iload_n 1, 1) := by decide +kernel
theorem dX6_paired_24 : decode cX6_paired 24 = .ok (.iload_n 2, 1) := by decide +kernel
theorem dX6_paired_25 : decode cX6_paired 25 = .ok (.ishr, 1) := by decide +kernel
theorem dX6_paired_26 : decode cX6_paired 26 = .ok (.iconst 1, 1) := by decide +kernel
theorem dX6_paired_27 : decode cX6_paired 27 = .ok (.iand, 1) := by decide +kernel
theorem dX6_paired_28 : decode cX6_paired 28 = .ok (.ifCond .ne 9, 3) := by decide +kernel
theorem dX6_paired_31 : decode cX6_paired 31 = .ok (.iinc 2 1, 3) := by decide +kernel
theorem dX6_paired_34 : decode cX6_paired 34 = .ok (.goto (-11), 3) := by decide +kernel
theorem dX6_paired_37 : decode cX6_paired 37 = .ok (.iload_n 1, 1) := by decide +kernel
theorem dX6_paired_38 : decode cX6_paired 38 = .ok (.iload_n 1, 1) := by decide +kernel
theorem dX6_paired_39 : decode cX6_paired 39 = .ok (.iconst 1, 1) := by decide +kernel
theorem dX6_paired_40 : decode cX6_paired 40 = .ok (.isub, 1) := by decide +kernel
theorem dX6_paired_41 : decode cX6_paired 41 = .ok (.iand, 1) := by decide +kernel
theorem dX6_paired_42 : decode cX6_paired 42 = .ok (.istore_n 3, 1) := by decide +kernel
theorem dX6_paired_43 : decode cX6_paired 43 = .ok (.aload_n 0, 1) := by decide +kernel
theorem dX6_paired_44 : decode cX6_paired 44 = .ok (.getfield 25, 3) := by decide +kernel
theorem dX6_paired_47 : decode cX6_paired 47 = .ok (.iload_n 1, 1) := by decide +kernel
theorem dX6_paired_48 : decode cX6_paired 48 = .ok (.aload_n 0, 1) := by decide +kernel
theorem dX6_paired_49 : decode cX6_paired 49 = .ok (.getfield 25, 3) := by decide +kernel
theorem dX6_paired_52 : decode cX6_paired 52 = .ok (.iload_n 3, 1) := by decide +kernel
theorem dX6_paired_53 : decode cX6_paired 53 = .ok (.iaload, 1) := by decide +kernel
theorem dX6_paired_54 : decode cX6_paired 54 = .ok (.iastore, 1) := by decide +kernel
theorem dX6_paired_55 : decode cX6_paired 55 = .ok (.iload_n 2, 1) := by decide +kernel
theorem dX6_paired_56 : decode cX6_paired 56 = .ok (.iconst 1, 1) := by decide +kernel
theorem dX6_paired_57 : decode cX6_paired 57 = .ok (.iadd, 1) := by decide +kernel
theorem dX6_paired_58 : decode cX6_paired 58 = .ok (.istore 4, 2) := by decide +kernel
theorem dX6_paired_60 : decode cX6_paired 60 = .ok (.iload 4, 2) := by decide +kernel
theorem dX6_paired_62 : decode cX6_paired 62 = .ok (.aload_n 0, 1) := by decide +kernel
theorem dX6_paired_63 : decode cX6_paired 63 = .ok (.getfield 7, 3) := by decide +kernel
theorem dX6_paired_66 : decode cX6_paired 66 = .ok (.iconst 0, 1) := by decide +kernel
theorem dX6_paired_67 : decode cX6_paired 67 = .ok (.iaload, 1) := by decide +kernel
theorem dX6_paired_68 : decode cX6_paired 68 = .ok (.if_icmp .ge 55, 3) := by decide +kernel
theorem dX6_paired_71 : decode cX6_paired 71 = .ok (.iload_n 3, 1) := by decide +kernel
theorem dX6_paired_72 : decode cX6_paired 72 = .ok (.iload 4, 2) := by decide +kernel
theorem dX6_paired_74 : decode cX6_paired 74 = .ok (.ishr, 1) := by decide +kernel
theorem dX6_paired_75 : decode cX6_paired 75 = .ok (.iconst 1, 1) := by decide +kernel
theorem dX6_paired_76 : decode cX6_paired 76 = .ok (.iand, 1) := by decide +kernel
theorem dX6_paired_77 : decode cX6_paired 77 = .ok (.iconst 1, 1) := by decide +kernel
theorem dX6_paired_78 : decode cX6_paired 78 = .ok (.if_icmp .ne 39, 3) := by decide +kernel
theorem dX6_paired_81 : decode cX6_paired 81 = .ok (.aload_n 0, 1) := by decide +kernel
theorem dX6_paired_82 : decode cX6_paired 82 = .ok (.getfield 25, 3) := by decide +kernel
theorem dX6_paired_85 : decode cX6_paired 85 = .ok (.iload_n 1, 1) := by decide +kernel
theorem dX6_paired_86 : decode cX6_paired 86 = .ok (.aload_n 0, 1) := by decide +kernel
theorem dX6_paired_87 : decode cX6_paired 87 = .ok (.getfield 25, 3) := by decide +kernel
theorem dX6_paired_90 : decode cX6_paired 90 = .ok (.iload_n 1, 1) := by decide +kernel
theorem dX6_paired_91 : decode cX6_paired 91 = .ok (.iaload, 1) := by decide +kernel
theorem dX6_paired_92 : decode cX6_paired 92 = .ok (.aload_n 0, 1) := by decide +kernel
theorem dX6_paired_93 : decode cX6_paired 93 = .ok (.getfield 25, 3) := by decide +kernel
theorem dX6_paired_96 : decode cX6_paired 96 = .ok (.iload_n 3, 1) := by decide +kernel
theorem dX6_paired_97 : decode cX6_paired 97 = .ok (.iconst 1, 1) := by decide +kernel
theorem dX6_paired_98 : decode cX6_paired 98 = .ok (.iload 4, 2) := by decide +kernel
theorem dX6_paired_100 : decode cX6_paired 100 = .ok (.ishl, 1) := by decide +kernel
theorem dX6_paired_101 : decode cX6_paired 101 = .ok (.iconst (-1), 1) := by decide +kernel
theorem dX6_paired_102 : decode cX6_paired 102 = .ok (.ixor, 1) := by decide +kernel
theorem dX6_paired_103 : decode cX6_paired 103 = .ok (.iand, 1) := by decide +kernel
theorem dX6_paired_104 : decode cX6_paired 104 = .ok (.iaload, 1) := by decide +kernel
theorem dX6_paired_105 : decode cX6_paired 105 = .ok (.aload_n 0, 1) := by decide +kernel
theorem dX6_paired_106 : decode cX6_paired 106 = .ok (.iload_n 2, 1) := by decide +kernel
theorem dX6_paired_107 : decode cX6_paired 107 = .ok (.iload 4, 2) := by decide +kernel
theorem dX6_paired_109 : decode cX6_paired 109 = .ok (.invokevirtual 243, 3) := by decide +kernel
theorem dX6_paired_112 : decode cX6_paired 112 = .ok (.iadd, 1) := by decide +kernel
theorem dX6_paired_113 : decode cX6_paired 113 = .ok (.invokestatic 186, 3) := by decide +kernel
theorem dX6_paired_116 : decode cX6_paired 116 = .ok (.iastore, 1) := by decide +kernel
theorem dX6_paired_117 : decode cX6_paired 117 = .ok (.iinc 4 1, 3) := by decide +kernel
theorem dX6_paired_120 : decode cX6_paired 120 = .ok (.goto (-60), 3) := by decide +kernel
theorem dX6_paired_123 : decode cX6_paired 123 = .ok (.iinc 1 1, 3) := by decide +kernel
theorem dX6_paired_126 : decode cX6_paired 126 = .ok (.goto (-117), 3) := by decide +kernel
theorem dX6_paired_129 : decode cX6_paired 129 = .ok (.aload_n 0, 1) := by decide +kernel
theorem dX6_paired_130 : decode cX6_paired 130 = .ok (.getfield 25, 3) := by decide +kernel
theorem dX6_paired_133 : decode cX6_paired 133 = .ok (.iconst 1, 1) := by decide +kernel
theorem dX6_paired_134 : decode cX6_paired 134 = .ok (.aload_n 0, 1) := by decide +kernel
theorem dX6_paired_135 : decode cX6_paired 135 = .ok (.getfield 7, 3) := by decide +kernel
theorem dX6_paired_138 : decode cX6_paired 138 = .ok (.iconst 0, 1) := by decide +kernel
theorem dX6_paired_139 : decode cX6_paired 139 = .ok (.iaload, 1) := by decide +kernel
theorem dX6_paired_140 : decode cX6_paired 140 = .ok (.ishl, 1) := by decide +kernel
theorem dX6_paired_141 : decode cX6_paired 141 = .ok (.iconst 1, 1) := by decide +kernel
theorem dX6_paired_142 : decode cX6_paired 142 = .ok (.isub, 1) := by decide +kernel
theorem dX6_paired_143 : decode cX6_paired 143 = .ok (.iaload, 1) := by decide +kernel
theorem dX6_paired_144 : decode cX6_paired 144 = .ok (.ireturn, 1) := by decide +kernel
set_option maxHeartbeats 400000 in
set_option maxRecDepth 20000 in
theorem t_X6_paired (l : Launch) (ad : Nat → Nat) (D : va_G) (cs : Nat → ClassId) (h : Nat → Nat) (σ : Nat → Nat → Int32) (pre post : va_W) (n : Nat) (hN : σ 0 0 = nI n) (hn : n ≤ 8) : CTi l yX6_paired cX6_paired 5 .int ({ frames := 5, cells := 0, slots := 0, locals := 112 }) ad D (tysW cs) (pre ++ (wM cs h σ ++ post)) [.ref (h 0)] (dpF (σ 0) n (σ 12) (2 ^ n) (2 ^ n - 1)) (pre ++ (wM cs h (su σ 12 (dpF (σ 0) n (σ 12) (2 ^ n))) ++ post)) := by
  refine CTi.of (lv0 := [(0, .ref (h 0))]) (by decide) rfl (Nat.le_of_ble_eq_true rfl) (fun p e s m args below meth c A C hr hlk => ?_)
  have C : Cx p s m args c cX6_paired 5 RX6 ad D (tysW cs) A := C
  have hp : 2 ^ n ≤ 256 := show 2 ^ n ≤ 2 ^ 8 from Nat.pow_le_pow_right (by decide) hn
  have hp0 : 0 < 2 ^ n := Nat.two_pow_pos n
  refine r_aload_n (pc := 0) C 0 dX6_paired_0 rfl rfl ?_
  refine mg_worths (pc := 1) C fl_RX6_25 dX6_paired_1 ?_
  refine r_iconst (pc := 4) C 0 dX6_paired_4 (by decide) ?_
  refine r_iconst (pc := 5) C 0 dX6_paired_5 (by decide) ?_
  refine as_worths (pc := 6) C 0 (rfl) (by omega) dX6_paired_6 (σ 12) (rfl) ?_
  refine r_iconst (pc := 7) C 1 dX6_paired_7 (by decide) ?_
  refine r_istore_n (pc := 8) C [(1, .int 1), (0, .ref (h 0))] dX6_paired_8 rfl (by decide) rfl ?_
  refine r_pick (lv' := [(0, .ref (h 0)), (1, .int 1)]) [1, 0] rfl ?_
  refine r_blk (blk' := wM cs h (su σ 12 (dpF (σ 0) n (σ 12) 1))) (by rw [show (dpF (σ 0) n (σ 12) 1 : Nat → Int32) = upd (σ 12) 0 0 from Eq.symm (rfl)] <;> rfl) ?_
  refine r_loop (blkf := fun w => wM cs h (su σ 12 (dpF (σ 0) n (σ 12) w))) (lvf := fun w => [(0, .ref (h 0)), (1, .int (nI w))]) (fun w => 0 < w) (2 ^ n) 1 (by omega) (by decide) (fun w h_w hx ih_9 => ?_)
  show VX p l e _ s m args below meth c _ D A 5 pre (wM cs h (su σ 12 (dpF (σ 0) n (σ 12) w))) post 9 [(0, .ref (h 0)), (1, .int (nI w))] []
  refine r_iload_n (pc := 9) C 1 dX6_paired_9 rfl rfl ?_
  refine r_iconst (pc := 10) C 1 dX6_paired_10 (by decide) ?_
  refine r_aload_n (pc := 11) C 0 dX6_paired_11 rfl rfl ?_
  refine mg_s (pc := 12) C fl_RX6_7 dX6_paired_12 ?_
  refine r_iconst (pc := 15) C 0 dX6_paired_15 (by decide) ?_
  refine al_s (pc := 16) C 0 (rfl) (by omega) dX6_paired_16 (σ 0 0) (congrFun ((su_nn (by decide))) _) ?_
  refine r_eqi (y := nI n) (hN) ?_
  refine r_ishl (pc := 17) C dX6_paired_17 ?_
  refine r_eqi (y := nI (2 ^ n)) (bitI_N (by omega)) ?_
  refine r_icmp_ge (pc := 18) C 129 dX6_paired_18 (by decide) (fun c_1 => ?_) (fun c_1 => ?_)
  · skip
    have c_1 := nIc_ge_t (a := w) (b := (2 ^ n)) (by omega) (by omega) c_1
    obtain rfl : w = 2 ^ n := by omega
    refine r_aload_n (pc := 129) C 0 dX6_paired_129 rfl rfl ?_
    refine mg_worths (pc := 130) C fl_RX6_25 dX6_paired_130 ?_
    refine r_iconst (pc := 133) C 1 dX6_paired_133 (by decide) ?_
    refine r_aload_n (pc := 134) C 0 dX6_paired_134 rfl rfl ?_
    refine mg_s (pc := 135) C fl_RX6_7 dX6_paired_135 ?_
    refine r_iconst (pc := 138) C 0 dX6_paired_138 (by decide) ?_
    refine al_s (pc := 139) C 0 (rfl) (by omega) dX6_paired_139 (σ 0 0) (congrFun ((su_nn (by decide))) _) ?_
    refine r_eqi (y := nI n) (hN) ?_
    refine r_ishl (pc := 140) C dX6_paired_140 ?_
    refine r_eqi (y := nI (2 ^ n)) (bitI_N (by omega)) ?_
    refine r_iconst (pc := 141) C 1 dX6_paired_141 (by decide) ?_
    refine r_isub (pc := 142) C dX6_paired_142 ?_
    refine r_eqi (y := nI (2 ^ n - 1)) (pk_sub (b := 1) (by omega)) ?_
    refine al_worths (pc := 143) C (2 ^ n - 1) (rfl) (by omega) dX6_paired_143 (dpF (σ 0) n (σ 12) (2 ^ n) (2 ^ n - 1)) (congrFun (su_at) _) ?_
    exact r_iret (pc := 144) C hr hlk dX6_paired_144 rfl rfl rfl
  · skip
    have c_1 := nIc_ge_f (a := w) (b := (2 ^ n)) (by omega) (by omega) c_1
    refine r_iconst (pc := 21) C 0 dX6_paired_21 (by decide) ?_
    refine r_istore_n (pc := 22) C [(2, .int 0), (0, .ref (h 0)), (1, .int (nI w))] dX6_paired_22 rfl (by decide) rfl ?_
    refine r_pick (lv' := [(0, .ref (h 0)), (1, .int (nI w)), (2, .int 0)]) [1, 2, 0] rfl ?_
    refine r_loop (blkf := fun i => wM cs h (su σ 12 (dpF (σ 0) n (σ 12) w))) (lvf := fun i => [(0, .ref (h 0)), (1, .int (nI w)), (2, .int (nI i))]) (fun i => LwI w i) 8 0 (by omega) (lwI_0) (fun i h_i hl ih_23 => ?_)
    show VX p l e _ s m args below meth c _ D A 5 pre (wM cs h (su σ 12 (dpF (σ 0) n (σ 12) w))) post 23 [(0, .ref (h 0)), (1, .int (nI w)), (2, .int (nI i))] []
    refine r_iload_n (pc := 23) C 1 dX6_paired_23 rfl rfl ?_
    refine r_iload_n (pc := 24) C 2 dX6_paired_24 rfl rfl ?_
    refine r_ishr (pc := 25) C dX6_paired_25 ?_
    refine r_eqi (y := nI (w / 2 ^ i)) (pk_shrN (by omega) _ _ (sh_k _ (by omega))) ?_
    refine r_iconst (pc := 26) C 1 dX6_paired_26 (by decide) ?_
    refine r_iand (pc := 27) C dX6_paired_27 ?_
    refine r_eqi (y := nI (w / 2 ^ i % 2)) (an1 _) ?_
    refine r_if_ne (pc := 28) C 37 dX6_paired_28 (by decide) (fun c_2 => ?_) (fun c_2 => ?_)
    · skip
      have c_2 := nIc_ne_t (a := (w / 2 ^ i % 2)) (b := 0) (by omega) (by omega) c_2
      have hin := lw_lt ‹w < 2 ^ n› c_2
      have hlw := lw_eq (by omega) (by omega) hl c_2
      subst hlw
      refine r_iload_n (pc := 37) C 1 dX6_paired_37 rfl rfl ?_
      refine r_iload_n (pc := 38) C 1 dX6_paired_38 rfl rfl ?_
      refine r_iconst (pc := 39) C 1 dX6_paired_39 (by decide) ?_
      obtain ⟨r, hr⟩ : ∃ r, r = w &&& (w - 1) := ⟨_, rfl⟩
      have hrw : r ≤ w - 1 := hr ▸ Nat.and_le_right
      refine r_isub (pc := 40) C dX6_paired_40 ?_
      refine r_eqi (y := nI (w - 1)) (pk_sub (b := 1) (by omega)) ?_
      refine r_iand (pc := 41) C dX6_paired_41 ?_
      refine r_eqi (y := nI r) ((nI_and _ _).trans (by rw [← hr])) ?_
      refine r_istore_n (pc := 42) C [(3, .int (nI r)), (0, .ref (h 0)), (1, .int (nI w)), (2, .int (nI (lwN w)))] dX6_paired_42 rfl (by decide) rfl ?_
      refine r_aload_n (pc := 43) C 1 dX6_paired_43 rfl rfl ?_
      refine mg_worths (pc := 44) C fl_RX6_25 dX6_paired_44 ?_
      refine r_iload_n (pc := 47) C 2 dX6_paired_47 rfl rfl ?_
      refine r_aload_n (pc := 48) C 1 dX6_paired_48 rfl rfl ?_
      refine mg_worths (pc := 49) C fl_RX6_25 dX6_paired_49 ?_
      refine r_iload_n (pc := 52) C 0 dX6_paired_52 rfl rfl ?_
      refine al_worths (pc := 53) C r (rfl) (by omega) dX6_paired_53 (dpF (σ 0) n (σ 12) w r) (congrFun (su_at) _) ?_
      refine as_worths (pc := 54) C w (rfl) (by omega) dX6_paired_54 (dpF (σ 0) n (σ 12) w) (su_at) ?_
      refine r_blk (blk' := wM cs h (su σ 12 (upd (dpF (σ 0) n (σ 12) w) w (dpF (σ 0) n (σ 12) w r)))) (congrArg (wM cs h) (by rw [su_su])) ?_
      refine r_iload_n (pc := 55) C 3 dX6_paired_55 rfl rfl ?_
      refine r_iconst (pc := 56) C 1 dX6_paired_56 (by decide) ?_
      refine r_iadd (pc := 57) C dX6_paired_57 ?_
      refine r_eqi (y := nI (lwN w + 1)) (nI_add (lwN w) 1) ?_
      refine r_istore (pc := 58) C [(4, .int (nI (lwN w + 1))), (3, .int (nI r)), (0, .ref (h 0)), (1, .int (nI w)), (2, .int (nI (lwN w)))] dX6_paired_58 (by decide) rfl ?_
      refine r_pick (lv' := [(0, .ref (h 0)), (1, .int (nI w)), (2, .int (nI (lwN w))), (3, .int (nI r)), (4, .int (nI (lwN w + 1)))]) [2, 3, 4, 1, 0] rfl ?_
      refine r_blk (blk' := wM cs h (su σ 12 (upd (dpF (σ 0) n (σ 12) w) w (pvQ (σ 0) (dpF (σ 0) n (σ 12) w) (lwN w) r (lwN w + 1))))) (by rw [show (upd (dpF (σ 0) n (σ 12) w) w (pvQ (σ 0) (dpF (σ 0) n (σ 12) w) (lwN w) r (lwN w + 1)) : Nat → Int32) = upd (dpF (σ 0) n (σ 12) w) w (dpF (σ 0) n (σ 12) w r) from Eq.symm ((congrArg (upd _ w) (pv_start _ (Nat.le_refl _)).symm))] <;> rfl) ?_
      refine r_loop (blkf := fun q => wM cs h (su σ 12 (upd (dpF (σ 0) n (σ 12) w) w (pvQ (σ 0) (dpF (σ 0) n (σ 12) w) (lwN w) r q)))) (lvf := fun q => [(0, .ref (h 0)), (1, .int (nI w)), (2, .int (nI (lwN w))), (3, .int (nI r)), (4, .int (nI q))]) (fun q => lwN w < q) n (lwN w + 1) (by omega) (Nat.lt_succ_self _) (fun q h_q hbq ih_60 => ?_)
      show VX p l e _ s m args below meth c _ D A 5 pre (wM cs h (su σ 12 (upd (dpF (σ 0) n (σ 12) w) w (pvQ (σ 0) (dpF (σ 0) n (σ 12) w) (lwN w) r q)))) post 60 [(0, .ref (h 0)), (1, .int (nI w)), (2, .int (nI (lwN w))), (3, .int (nI r)), (4, .int (nI q))] []
      refine r_iload (pc := 60) C 4 dX6_paired_60 rfl ?_
      refine r_aload_n (pc := 62) C 0 dX6_paired_62 rfl rfl ?_
      refine mg_s (pc := 63) C fl_RX6_7 dX6_paired_63 ?_
      refine r_iconst (pc := 66) C 0 dX6_paired_66 (by decide) ?_
      refine al_s (pc := 67) C 0 (rfl) (by omega) dX6_paired_67 (σ 0 0) (congrFun ((su_nn (by decide))) _) ?_
      refine r_eqi (y := nI n) (hN) ?_
      refine r_icmp_ge (pc := 68) C 123 dX6_paired_68 (by decide) (fun c_3 => ?_) (fun c_3 => ?_)
      · skip
        have c_3 := nIc_ge_t (a := q) (b := n) (by omega) (by omega) c_3
        obtain rfl : n = q := by omega
        refine r_iinc (pc := 123) C (nI (w + 1)) 1 [(1, .int (nI (w + 1))), (0, .ref (h 0)), (2, .int (nI (lwN w))), (3, .int (nI r)), (4, .int (nI n))] dX6_paired_123 rfl (nI_1 _) (by decide) rfl ?_
        refine r_goto (pc := 126) C 9 dX6_paired_126 (by decide) ?_
        refine r_pick (lv' := [(0, .ref (h 0)), (1, .int (nI (w + 1)))]) [1, 0] rfl ?_
        refine r_blk (blk' := wM cs h (su σ 12 (dpF (σ 0) n (σ 12) (w + 1)))) (by rw [show (dpF (σ 0) n (σ 12) (w + 1) : Nat → Int32) = upd (dpF (σ 0) n (σ 12) w) w (pvQ (σ 0) (dpF (σ 0) n (σ 12) w) (lwN w) r n) from Eq.symm ((by rw [hr]; exact dp_s hx))] <;> rfl) ?_
        exact ih_9 (by omega) (by omega)
      · skip
        have c_3 := nIc_ge_f (a := q) (b := n) (by omega) (by omega) c_3
        refine r_iload_n (pc := 71) C 3 dX6_paired_71 rfl rfl ?_
        refine r_iload (pc := 72) C 4 dX6_paired_72 rfl ?_
        refine r_ishr (pc := 74) C dX6_paired_74 ?_
        refine r_eqi (y := nI (r / 2 ^ q)) (pk_shrN (by omega) _ _ (sh_k _ (by omega))) ?_
        refine r_iconst (pc := 75) C 1 dX6_paired_75 (by decide) ?_
        refine r_iand (pc := 76) C dX6_paired_76 ?_
        refine r_eqi (y := nI (r / 2 ^ q % 2)) (an1 _) ?_
        refine r_iconst (pc := 77) C 1 dX6_paired_77 (by decide) ?_
        refine r_icmp_ne (pc := 78) C 117 dX6_paired_78 (by decide) (fun c_4 => ?_) (fun c_4 => ?_)
        · skip
          have c_4 := nIc_ne_t (a := (r / 2 ^ q % 2)) (b := 1) (by omega) (by omega) c_4
          refine r_iinc (pc := 117) C (nI (q + 1)) 4 [(4, .int (nI (q + 1))), (0, .ref (h 0)), (1, .int (nI w)), (2, .int (nI (lwN w))), (3, .int (nI r))] dX6_paired_117 rfl (nI_1 _) (by decide) rfl ?_
          refine r_goto (pc := 120) C 60 dX6_paired_120 (by decide) ?_
          refine r_pick (lv' := [(0, .ref (h 0)), (1, .int (nI w)), (2, .int (nI (lwN w))), (3, .int (nI r)), (4, .int (nI (q + 1)))]) [1, 2, 3, 4, 0] rfl ?_
          refine r_blk (blk' := wM cs h (su σ 12 (upd (dpF (σ 0) n (σ 12) w) w (pvQ (σ 0) (dpF (σ 0) n (σ 12) w) (lwN w) r (q + 1))))) (by rw [show (upd (dpF (σ 0) n (σ 12) w) w (pvQ (σ 0) (dpF (σ 0) n (σ 12) w) (lwN w) r (q + 1)) : Nat → Int32) = upd (dpF (σ 0) n (σ 12) w) w (pvQ (σ 0) (dpF (σ 0) n (σ 12) w) (lwN w) r q) from Eq.symm ((congrArg (upd _ w) (pv_n ‹_›)))] <;> rfl) ?_
          exact ih_60 (by omega) (by omega)
        · skip
          have c_4 := nIc_ne_f (a := (r / 2 ^ q % 2)) (b := 1) (by omega) (by omega) c_4
          have hbl := bt_le c_4
          have hp2 := Nat.two_pow_pos q
          refine r_aload_n (pc := 81) C 0 dX6_paired_81 rfl rfl ?_
          refine mg_worths (pc := 82) C fl_RX6_25 dX6_paired_82 ?_
          refine r_iload_n (pc := 85) C 1 dX6_paired_85 rfl rfl ?_
          refine r_aload_n (pc := 86) C 0 dX6_paired_86 rfl rfl ?_
          refine mg_worths (pc := 87) C fl_RX6_25 dX6_paired_87 ?_
          refine r_iload_n (pc := 90) C 1 dX6_paired_90 rfl rfl ?_
          refine al_worths (pc := 91) C w (rfl) (by omega) dX6_paired_91 (upd (dpF (σ 0) n (σ 12) w) w (pvQ (σ 0) (dpF (σ 0) n (σ 12) w) (lwN w) r q) w) (congrFun (su_at) _) ?_
          refine r_eqi (y := pvQ (σ 0) (dpF (σ 0) n (σ 12) w) (lwN w) r q) (upd_self) ?_
          refine r_aload_n (pc := 92) C 0 dX6_paired_92 rfl rfl ?_
          refine mg_worths (pc := 93) C fl_RX6_25 dX6_paired_93 ?_
          refine r_iload_n (pc := 96) C 3 dX6_paired_96 rfl rfl ?_
          refine r_iconst (pc := 97) C 1 dX6_paired_97 (by decide) ?_
          refine r_iload (pc := 98) C 4 dX6_paired_98 rfl ?_
          refine r_ishl (pc := 100) C dX6_paired_100 ?_
          refine r_eqi (y := nI (2 ^ q)) (bitI_N (by omega)) ?_
          refine r_iconst (pc := 101) C (-1) dX6_paired_101 (by decide) ?_
          refine r_ixor (pc := 102) C dX6_paired_102 ?_
          refine r_iand (pc := 103) C dX6_paired_103 ?_
          refine r_eqi (y := nI (r - 2 ^ q)) (an_no (by omega) (by omega) ‹_›) ?_
          refine al_worths (pc := 104) C (r - 2 ^ q) (rfl) (by omega) dX6_paired_104 (upd (dpF (σ 0) n (σ 12) w) w (pvQ (σ 0) (dpF (σ 0) n (σ 12) w) (lwN w) r q) (r - 2 ^ q)) (congrFun (su_at) _) ?_
          refine r_eqi (y := dpF (σ 0) n (σ 12) w (r - 2 ^ q)) (upd_ne (by omega)) ?_
          refine r_aload_n (pc := 105) C 0 dX6_paired_105 rfl rfl ?_
          refine r_iload_n (pc := 106) C 2 dX6_paired_106 rfl rfl ?_
          refine r_iload (pc := 107) C 4 dX6_paired_107 rfl ?_
          refine rc_Vi (pc := 109) C (t_X6_worthOf' l ad D cs h (su σ 12 (upd (dpF (σ 0) n (σ 12) w) w (pvQ (σ 0) (dpF (σ 0) n (σ 12) w) (lwN w) r q))) pre post (σ 0) ((su_nn (by decide))) n (lwN w) q hN hn (by omega) (by omega)) mv_X6_worthOf ml_RX6_243 rfl ⟨Nat.le_of_ble_eq_true rfl, Nat.le_of_ble_eq_true rfl⟩ ⟨rfl, rfl⟩ (q0 := 0) rfl rfl rfl rfl rfl rfl (Nat.le_of_ble_eq_true rfl) dX6_paired_109 ?_
          refine r_iadd (pc := 112) C dX6_paired_112 ?_
          refine rc_Si (pc := 113) C (t_X6_greatest l ad D (tysW cs) (wM cs h (su σ 12 (upd (dpF (σ 0) n (σ 12) w) w (pvQ (σ 0) (dpF (σ 0) n (σ 12) w) (lwN w) r q)))) pre post  (pvQ (σ 0) (dpF (σ 0) n (σ 12) w) (lwN w) r q) ((dpF (σ 0) n (σ 12) w (r - 2 ^ q)) + (mxI 0 (offersF (σ 0) (lwN w) q) + mxI 0 (offersF (σ 0) q (lwN w)))) ) ms_X6_greatest ml_RX6_186 rfl ⟨Nat.le_of_ble_eq_true rfl, Nat.le_of_ble_eq_true rfl⟩ ⟨rfl, rfl⟩ rfl rfl rfl (Nat.le_of_ble_eq_true rfl) dX6_paired_113 ?_
          refine as_worths (pc := 116) C w (rfl) (by omega) dX6_paired_116 (upd (dpF (σ 0) n (σ 12) w) w (pvQ (σ 0) (dpF (σ 0) n (σ 12) w) (lwN w) r q)) (su_at) ?_
          refine r_blk (blk' := wM cs h (su σ 12 (upd (upd (dpF (σ 0) n (σ 12) w) w (pvQ (σ 0) (dpF (σ 0) n (σ 12) w) (lwN w) r q)) w (mxI (pvQ (σ 0) (dpF (σ 0) n (σ 12) w) (lwN w) r q) ((dpF (σ 0) n (σ 12) w (r - 2 ^ q)) + (mxI 0 (offersF (σ 0) (lwN w) q) + mxI 0 (offersF (σ 0) q (lwN w)))))))) (congrArg (wM cs h) (by rw [su_su])) ?_
          refine r_iinc (pc := 117) C (nI (q + 1)) 4 [(4, .int (nI (q + 1))), (0, .ref (h 0)), (1, .int (nI w)), (2, .int (nI (lwN w))), (3, .int (nI r))] dX6_paired_117 rfl (nI_1 _) (by decide) rfl ?_
          refine r_goto (pc := 120) C 60 dX6_paired_120 (by decide) ?_
          refine r_pick (lv' := [(0, .ref (h 0)), (1, .int (nI w)), (2, .int (nI (lwN w))), (3, .int (nI r)), (4, .int (nI (q + 1)))]) [1, 2, 3, 4, 0] rfl ?_
          refine r_blk (blk' := wM cs h (su σ 12 (upd (dpF (σ 0) n (σ 12) w) w (pvQ (σ 0) (dpF (σ 0) n (σ 12) w) (lwN w) r (q + 1))))) (by rw [show (upd (dpF (σ 0) n (σ 12) w) w (pvQ (σ 0) (dpF (σ 0) n (σ 12) w) (lwN w) r (q + 1)) : Nat → Int32) = upd (upd (dpF (σ 0) n (σ 12) w) w (pvQ (σ 0) (dpF (σ 0) n (σ 12) w) (lwN w) r q)) w (mxI (pvQ (σ 0) (dpF (σ 0) n (σ 12) w) (lwN w) r q) ((dpF (σ 0) n (σ 12) w (r - 2 ^ q)) + (mxI 0 (offersF (σ 0) (lwN w) q) + mxI 0 (offersF (σ 0) q (lwN w))))) from Eq.symm ((upd_upd.trans (congrArg (upd _ w) (pv_t hbq ‹_›))))] <;> rfl) ?_
          exact ih_60 (by omega) (by omega)
    · skip
      have c_2 := nIc_ne_f (a := (w / 2 ^ i % 2)) (b := 0) (by omega) (by omega) c_2
      have hi8 := lwI_8 hx (by omega) (by omega) hl c_2
      refine r_iinc (pc := 31) C (nI (i + 1)) 2 [(2, .int (nI (i + 1))), (0, .ref (h 0)), (1, .int (nI w))] dX6_paired_31 rfl (nI_1 _) (by decide) rfl ?_
      refine r_goto (pc := 34) C 23 dX6_paired_34 (by decide) ?_
      refine r_pick (lv' := [(0, .ref (h 0)), (1, .int (nI w)), (2, .int (nI (i + 1)))]) [1, 2, 0] rfl ?_
      exact ih_23 (by omega) (lwI_s hl ‹_›)
theorem t_X6_paired' (l : Launch) (ad : Nat → Nat) (D : va_G) (cs : Nat → ClassId) (h : Nat → Nat) (σ : Nat → Nat → Int32) (pre post : va_W) (f0_ : Nat → Int32) (e0_ : σ 0 = f0_) (f12_ : Nat → Int32) (e12_ : σ 12 = f12_) (n : Nat) (hN : f0_ 0 = nI n) (hn : n ≤ 8) : CTi l yX6_paired cX6_paired 5 .int ({ frames := 5, cells := 0, slots := 0, locals := 112 }) ad D (tysW cs) (pre ++ (wM cs h σ ++ post)) [.ref (h 0)] (dpF f0_ n (f12_) (2 ^ n) (2 ^ n - 1)) (pre ++ (wM cs h (su σ 12 (dpF f0_ n (f12_) (2 ^ n))) ++ post)) := by
  subst e0_; subst e12_
  exact t_X6_paired l ad D cs h σ pre post n hN hn
