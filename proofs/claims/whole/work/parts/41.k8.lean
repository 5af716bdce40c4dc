theorem dJ0_coder_7d493_0 : decode cJ0_coder_7d493 0 = .ok (.getstatic 38, 3) := by decide +kernel
theorem dJ0_coder_7d493_3 : decode cJ0_coder_7d493 3 = .ok (.ifCond .eq 10, 3) := by decide +kernel
theorem dJ0_coder_7d493_6 : decode cJ0_coder_7d493 6 = .ok (.aload_n 0, 1) := by decide +kernel
theorem dJ0_coder_7d493_7 : decode cJ0_coder_7d493 7 = .ok (.getfield 15, 3) := by decide +kernel
theorem dJ0_coder_7d493_10 : decode cJ0_coder_7d493 10 = .ok (.goto 4, 3) := by decide +kernel
theorem dJ0_coder_7d493_13 : decode cJ0_coder_7d493 13 = .ok (.iconst 1, 1) := by decide +kernel
theorem dJ0_coder_7d493_14 : decode cJ0_coder_7d493 14 = .ok (.ireturn, 1) := by decide +kernel
set_option maxHeartbeats 400000 in
set_option maxRecDepth 20000 in
theorem t_J0_coder_7d493 (l : Launch) (ad : Nat → Nat) (D : va_G) (tys : List (ClassId × FieldType)) (bk : va_W) (pre post : va_W) (q : Nat) (hq : q < 14) : CTi l yJ0_coder_7d493 cJ0_coder_7d493 1 .byte ({ frames := 0, cells := 0, slots := 0, locals := 0 }) ad D tys (pre ++ (bk ++ post)) [.ref (ad (10 + q))] 0 (pre ++ (bk ++ post)) := by
  refine CTi.of (lv0 := [(0, .ref (ad (10 + q)))]) (by decide) rfl (Nat.le_of_ble_eq_true rfl) (fun p e s m args below meth c A C hr hlk => ?_)
  have C : Cx p s m args c cJ0_coder_7d493 1 RJ0 ad D tys A := C
  refine r_cmps (pc := 0) C fl_RJ0_38 dJ0_coder_7d493_0 ?_
  refine r_if_eq (pc := 3) C 13 dJ0_coder_7d493_3 (by decide) (fun c_1 => ?_) (fun c_1 => ?_)
  · skip
    revert c_1; intro c_1
    exact absurd c_1 (by decide)
  · skip
    revert c_1; intro c_1
    refine r_aload_n (pc := 6) C 0 dJ0_coder_7d493_6 rfl rfl ?_
    refine r_scod (by omega) (pc := 7) C fl_RJ0_15 dJ0_coder_7d493_7 ?_
    refine r_goto (pc := 10) C 14 dJ0_coder_7d493_10 (by decide) ?_
    exact r_iret (pc := 14) C hr hlk dJ0_coder_7d493_14 rfl rfl rfl
theorem dJ0_isLatin1_aae02_0 : decode cJ0_isLatin1_aae02 0 = .ok (.getstatic 38, 3) := by decide +kernel
theorem dJ0_isLatin1_aae02_3 : decode cJ0_isLatin1_aae02 3 = .ok (.ifCond .eq 14, 3) := by decide +kernel
theorem dJ0_isLatin1_aae02_6 : decode cJ0_isLatin1_aae02 6 = .ok (.aload_n 0, 1) := by decide +kernel
theorem dJ0_isLatin1_aae02_7 : decode cJ0_isLatin1_aae02 7 = .ok (.getfield 15, 3) := by decide +kernel
theorem dJ0_isLatin1_aae02_10 : decode cJ0_isLatin1_aae02 10 = .ok (.ifCond .ne 7, 3) := by decide +kernel
theorem dJ0_isLatin1_aae02_13 : decode cJ0_isLatin1_aae02 13 = .ok (.iconst 1, 1) := by decide +kernel
theorem dJ0_isLatin1_aae02_14 : decode cJ0_isLatin1_aae02 14 = .ok (.goto 4, 3) := by decide +kernel
theorem dJ0_isLatin1_aae02_17 : decode cJ0_isLatin1_aae02 17 = .ok (.iconst 0, 1) := by decide +kernel
theorem dJ0_isLatin1_aae02_18 : decode cJ0_isLatin1_aae02 18 = .ok (.ireturn, 1) := by decide +kernel
set_option maxHeartbeats 400000 in
set_option maxRecDepth 20000 in
theorem t_J0_isLatin1_aae02 (l : Launch) (ad : Nat → Nat) (D : va_G) (tys : List (ClassId × FieldType)) (bk : va_W) (pre post : va_W) (q : Nat) (hq : q < 14) : CTi l yJ0_isLatin1_aae02 cJ0_isLatin1_aae02 1 .boolean ({ frames := 0, cells := 0, slots := 0, locals := 0 }) ad D tys (pre ++ (bk ++ post)) [.ref (ad (10 + q))] 1 (pre ++ (bk ++ post)) := by
  refine CTi.of (lv0 := [(0, .ref (ad (10 + q)))]) (by decide) rfl (Nat.le_of_ble_eq_true rfl) (fun p e s m args below meth c A C hr hlk => ?_)
  have C : Cx p s m args c cJ0_isLatin1_aae02 1 RJ0 ad D tys A := C
  refine r_cmps (pc := 0) C fl_RJ0_38 dJ0_isLatin1_aae02_0 ?_
  refine r_if_eq (pc := 3) C 17 dJ0_isLatin1_aae02_3 (by decide) (fun c_1 => ?_) (fun c_1 => ?_)
  · skip
    revert c_1; intro c_1
    exact absurd c_1 (by decide)
  · skip
    revert c_1; intro c_1
    refine r_aload_n (pc := 6) C 0 dJ0_isLatin1_aae02_6 rfl rfl ?_
    refine r_scod (by omega) (pc := 7) C fl_RJ0_15 dJ0_isLatin1_aae02_7 ?_
    refine r_if_ne (pc := 10) C 17 dJ0_isLatin1_aae02_10 (by decide) (fun c_2 => ?_) (fun c_2 => ?_)
    · skip
      revert c_2; intro c_2
      exact absurd c_2 (by decide)
    · skip
      revert c_2; intro c_2
      refine r_iconst (pc := 13) C 1 dJ0_isLatin1_aae02_13 (by decide) ?_
      refine r_goto (pc := 14) C 18 dJ0_isLatin1_aae02_14 (by decide) ?_
      exact r_iret (pc := 18) C hr hlk dJ0_isLatin1_aae02_18 rfl rfl rfl
theorem dJ0_length_8abf5_0 : decode cJ0_length_8abf5 0 = .ok (.aload_n 0, 1) := by decide +kernel
theorem dJ0_length_8abf5_1 : decode cJ0_length_8abf5 1 = .ok (.getfield 9, 3) := by decide +kernel
theorem dJ0_length_8abf5_4 : decode cJ0_length_8abf5 4 = .ok (.arraylength, 1) := by decide +kernel
theorem dJ0_length_8abf5_5 : decode cJ0_length_8abf5 5 = .ok (.aload_n 0, 1) := by decide +kernel
theorem dJ0_length_8abf5_6 : decode cJ0_length_8abf5 6 = .ok (.invokevirtual 335, 3) := by decide +kernel
theorem dJ0_length_8abf5_9 : decode cJ0_length_8abf5 9 = .ok (.ishr, 1) := by decide +kernel
theorem dJ0_length_8abf5_10 : decode cJ0_length_8abf5 10 = .ok (.ireturn, 1) := by decide +kernel
set_option maxHeartbeats 400000 in
set_option maxRecDepth 20000 in
theorem t_J0_length_8abf5 (l : Launch) (ad : Nat → Nat) (D : va_G) (tys : List (ClassId × FieldType)) (bk : va_W) (pre post : va_W) (q : Nat) (hq : q < 14) : CTi l yJ0_length_8abf5 cJ0_length_8abf5 1 .int ({ frames := 1, cells := 0, slots := 0, locals := 20 }) ad D tys (pre ++ (bk ++ post)) [.ref (ad (10 + q))] (nI (jsL.getD q 0)) (pre ++ (bk ++ post)) := by
  refine CTi.of (lv0 := [(0, .ref (ad (10 + q)))]) (by decide) rfl (Nat.le_of_ble_eq_true rfl) (fun p e s m args below meth c A C hr hlk => ?_)
  have C : Cx p s m args c cJ0_length_8abf5 1 RJ0 ad D tys A := C
  have hL := js_l q hq
  refine r_aload_n (pc := 0) C 0 dJ0_length_8abf5_0 rfl rfl ?_
  refine r_sval (by omega) (pc := 1) C fl_RJ0_9 dJ0_length_8abf5_1 ?_
  refine r_slen (pc := 4) C (by omega) dJ0_length_8abf5_4 ?_
  refine r_aload_n (pc := 5) C 0 dJ0_length_8abf5_5 rfl rfl ?_
  refine rc_Zi (pc := 6) C (t_J0_coder_7d493 l ad D tys bk pre post  q hq) mv_J0_coder_7d493 ml_RJ0_335 rfl ⟨Nat.le_of_ble_eq_true rfl, Nat.le_of_ble_eq_true rfl⟩ ⟨rfl, rfl⟩ (by omega) rfl rfl rfl rfl (Nat.le_of_ble_eq_true rfl) dJ0_length_8abf5_6 ?_
  refine r_ishr (pc := 9) C dJ0_length_8abf5_9 ?_
  refine r_eqi (y := nI (jsL.getD q 0)) ((pk_shrN (by omega) _ _ (sh_k 0 (by decide))).trans (by rw [Nat.pow_zero, Nat.div_one])) ?_
  exact r_iret (pc := 10) C hr hlk dJ0_length_8abf5_10 rfl rfl rfl
theorem dJ3_checkIndex_8e157_0 : decode cJ3_checkIndex_8e157 0 = .ok (.iload_n 0, 1) := by decide +kernel
theorem dJ3_checkIndex_8e157_1 : decode cJ3_checkIndex_8e157 1 = .ok (.ifCond .lt 8, 3) := by decide +kernel
theorem dJ3_checkIndex_8e157_4 : decode cJ3_checkIndex_8e157 4 = .ok (.iload_n 0, 1) := by decide +kernel
theorem dJ3_checkIndex_8e157_5 : decode cJ3_checkIndex_8e157 5 = .ok (.iload_n 1, 1) := by decide +kernel
theorem dJ3_checkIndex_8e157_6 : decode cJ3_checkIndex_8e157 6 = .ok (.if_icmp .lt 10, 3) := by decide +kernel
theorem dJ3_checkIndex_8e157_9 : decode cJ3_checkIndex_8e157 9 = .ok (.aload_n 2, 1) := by decide +kernel
theorem dJ3_checkIndex_8e157_10 : decode cJ3_checkIndex_8e157 10 = .ok (.iload_n 0, 1) := by decide +kernel
theorem dJ3_checkIndex_8e157_11 : decode cJ3_checkIndex_8e157 11 = .ok (.iload_n 1, 1) := by decide +kernel
theorem dJ3_checkIndex_8e157_12 : decode cJ3_checkIndex_8e157 12 = .ok (.invokestatic 95, 3) := by decide +kernel
theorem dJ3_checkIndex_8e157_15 : decode cJ3_checkIndex_8e157 15 = .ok (.athrow, 1) := by decide +kernel
theorem dJ3_checkIndex_8e157_16 : decode cJ3_checkIndex_8e157 16 = .ok (.iload_n 0, 1) := by decide +kernel
theorem dJ3_checkIndex_8e157_17 : decode cJ3_checkIndex_8e157 17 = .ok (.ireturn, 1) := by decide +kernel
set_option maxHeartbeats 400000 in
set_option maxRecDepth 20000 in
theorem t_J3_checkIndex_0 (l : Launch) (ad : Nat → Nat) (D : va_G) (tys : List (ClassId × FieldType)) (bk : va_W) (pre post : va_W) (i k : Nat) (hi : i < k) (hk : k < 2 ^ 31) : CTi l yJ3_checkIndex_8e157 cJ3_checkIndex_8e157 3 .int ({ frames := 0, cells := 0, slots := 0, locals := 0 }) ad D tys (pre ++ (bk ++ post)) [.int (nI i), .int (nI k), .null] (nI i) (pre ++ (bk ++ post)) := by
  refine CTi.of (lv0 := [(0, .int (nI i)), (1, .int (nI k)), (2, .null)]) (by decide) rfl (Nat.le_of_ble_eq_true rfl) (fun p e s m args below meth c A C hr hlk => ?_)
  have C : Cx p s m args c cJ3_checkIndex_8e157 3 RJ3 ad D tys A := C
  refine r_iload_n (pc := 0) C 0 dJ3_checkIndex_8e157_0 rfl rfl ?_
  refine r_if_lt (pc := 1) C 9 dJ3_checkIndex_8e157_1 (by decide) (fun c_1 => ?_) (fun c_1 => ?_)
  · skip
    have c_1 := nIc_lt_t (a := i) (b := 0) (by omega) (by omega) c_1
    exact absurd c_1 (by omega)
  · skip
    have c_1 := nIc_lt_f (a := i) (b := 0) (by omega) (by omega) c_1
    refine r_iload_n (pc := 4) C 0 dJ3_checkIndex_8e157_4 rfl rfl ?_
    refine r_iload_n (pc := 5) C 1 dJ3_checkIndex_8e157_5 rfl rfl ?_
    refine r_icmp_lt (pc := 6) C 16 dJ3_checkIndex_8e157_6 (by decide) (fun c_2 => ?_) (fun c_2 => ?_)
    · skip
      have c_2 := nIc_lt_t (a := i) (b := k) (by omega) (by omega) c_2
      refine r_iload_n (pc := 16) C 0 dJ3_checkIndex_8e157_16 rfl rfl ?_
      exact r_iret (pc := 17) C hr hlk dJ3_checkIndex_8e157_17 rfl rfl rfl
    · skip
      have c_2 := nIc_lt_f (a := i) (b := k) (by omega) (by omega) c_2
      exact absurd hi (by omega)
set_option maxHeartbeats 400000 in
set_option maxRecDepth 20000 in
theorem t_J3_checkIndex_1 (l : Launch) (ad : Nat → Nat) (D : va_G) (tys : List (ClassId × FieldType)) (bk : va_W) (pre post : va_W) (i k a_ : Nat) (hi : i < k) (hk : k < 2 ^ 31) : CTi l yJ3_checkIndex_8e157 cJ3_checkIndex_8e157 3 .int ({ frames := 0, cells := 0, slots := 0, locals := 0 }) ad D tys (pre ++ (bk ++ post)) [.int (nI i), .int (nI k), .ref a_] (nI i) (pre ++ (bk ++ post)) := by
  refine CTi.of (lv0 := [(0, .int (nI i)), (1, .int (nI k)), (2, .ref a_)]) (by decide) rfl (Nat.le_of_ble_eq_true rfl) (fun p e s m args below meth c A C hr hlk => ?_)
  have C : Cx p s m args c cJ3_checkIndex_8e157 3 RJ3 ad D tys A := C
  refine r_iload_n (pc := 0) C 0 dJ3_checkIndex_8e157_0 rfl rfl ?_
  refine r_if_lt (pc := 1) C 9 dJ3_checkIndex_8e157_1 (by decide) (fun c_1 => ?_) (fun c_1 => ?_)
  · skip
    have c_1 := nIc_lt_t (a := i) (b := 0) (by omega) (by omega) c_1
    exact absurd c_1 (by omega)
  · skip
    have c_1 := nIc_lt_f (a := i) (b := 0) (by omega) (by omega) c_1
    refine r_iload_n (pc := 4) C 0 dJ3_checkIndex_8e157_4 rfl rfl ?_
    refine r_iload_n (pc := 5) C 1 dJ3_checkIndex_8e157_5 rfl rfl ?_
    refine r_icmp_lt (pc := 6) C 16 dJ3_checkIndex_8e157_6 (by decide) (fun c_2 => ?_) (fun c_2 => ?_)
    · skip
      have c_2 := nIc_lt_t (a := i) (b := k) (by omega) (by omega) c_2
      refine r_iload_n (pc := 16) C 0 dJ3_checkIndex_8e157_16 rfl rfl ?_
      exact r_iret (pc := 17) C hr hlk dJ3_checkIndex_8e157_17 rfl rfl rfl
    · skip
      have c_2 := nIc_lt_f (a := i) (b := k) (by omega) (by omega) c_2
      exact absurd hi (by omega)
theorem dJ0_checkIndex_df160_0 : decode cJ0_checkIndex_df160 0 = .ok (.iload_n 0, 1) := by decide +kernel
theorem dJ0_checkIndex_df160_1 : decode cJ0_checkIndex_df160 1 = .ok (.iload_n 1, 1) := by decide +kernel
theorem dJ0_checkIndex_df160_2 : decode cJ0_checkIndex_df160 2 = .ok (.getstatic 1053, 3) := by decide +kernel
theorem dJ0_checkIndex_df160_5 : decode cJ0_checkIndex_df160 5 = .ok (.invokestatic 1059, 3) := by decide +kernel
theorem dJ0_checkIndex_df160_8 : decode cJ0_checkIndex_df160 8 = .ok (.pop, 1) := by decide +kernel
theorem dJ0_checkIndex_df160_9 : decode cJ0_checkIndex_df160 9 = .ok (.return_, 1) := by decide +kernel
set_option maxHeartbeats 400000 in
set_option maxRecDepth 20000 in
theorem t_J0_checkIndex_df160 (l : Launch) (ad : Nat → Nat) (D : va_G) (tys : List (ClassId × FieldType)) (bk : va_W) (pre post : va_W) (i k : Nat) (hi : i < k) (hk : k < 2 ^ 31) : CTv l yJ0_checkIndex_df160 cJ0_checkIndex_df160 2 ({ frames := 1, cells := 0, slots := 0, locals := 22 }) ad D tys (pre ++ (bk ++ post)) [.int (nI i), .int (nI k)] (pre ++ (bk ++ post)) := by
  refine CTv.of (lv0 := [(0, .int (nI i)), (1, .int (nI k))]) (by decide) rfl (Nat.le_of_ble_eq_true rfl) (fun p e s m args below meth c A C hr hlk => ?_)
  have C : Cx p s m args c cJ0_checkIndex_df160 2 RJ0 ad D tys A := C
  refine r_iload_n (pc := 0) C 0 dJ0_checkIndex_df160_0 rfl rfl ?_
  refine r_iload_n (pc := 1) C 1 dJ0_checkIndex_df160_1 rfl rfl ?_
  refine r_sfmt (pc := 2) C fl_RJ0_1053 dJ0_checkIndex_df160_2 ?_ (fun t_1 => ?_)
  · skip
    refine rc_Si (pc := 5) C (t_J3_checkIndex_0 l ad D tys bk pre post  i k hi hk) ms_J3_checkIndex_8e157 ml_RJ0_1059 rfl ⟨Nat.le_of_ble_eq_true rfl, Nat.le_of_ble_eq_true rfl⟩ ⟨rfl, rfl⟩ rfl rfl rfl (Nat.le_of_ble_eq_true rfl) dJ0_checkIndex_df160_5 ?_
    refine r_pop (pc := 8) C dJ0_checkIndex_df160_8 rfl ?_
    exact r_vret (pc := 9) C hr hlk dJ0_checkIndex_df160_9 rfl
  · skip
    refine rc_Si (pc := 5) C (t_J3_checkIndex_1 l ad D tys bk pre post  i k t_1 hi hk) ms_J3_checkIndex_8e157 ml_RJ0_1059 rfl ⟨Nat.le_of_ble_eq_true rfl, Nat.le_of_ble_eq_true rfl⟩ ⟨rfl, rfl⟩ rfl rfl rfl (Nat.le_of_ble_eq_true rfl) dJ0_checkIndex_df160_5 ?_
    refine r_pop (pc := 8) C dJ0_checkIndex_df160_8 rfl ?_
    exact r_vret (pc := 9) C hr hlk dJ0_checkIndex_df160_9 rfl
theorem dJ1_charAt_3b067_0 : decode cJ1_charAt_3b067 0 = .ok (.iload_n 1, 1) := by decide +kernel
theorem dJ1_charAt_3b067_1 : decode cJ1_charAt_3b067 1 = .ok (.aload_n 0, 1) := by decide +kernel
theorem dJ1_charAt_3b067_2 : decode cJ1_charAt_3b067 2 = .ok (.arraylength, 1) := by decide +kernel
theorem dJ1_charAt_3b067_3 : decode cJ1_charAt_3b067 3 = .ok (.invokestatic 9, 3) := by decide +kernel
theorem dJ1_charAt_3b067_6 : decode cJ1_charAt_3b067 6 = .ok (.aload_n 0, 1) := by decide +kernel
theorem dJ1_charAt_3b067_7 : decode cJ1_charAt_3b067 7 = .ok (.iload_n 1, 1) := by decide +kernel
theorem dJ1_charAt_3b067_8 : decode cJ1_charAt_3b067 8 = .ok (.baload, 1) := by decide +kernel
theorem dJ1_charAt_3b067_9 : decode cJ1_charAt_3b067 9 = .ok (.sipush 255, 3) := by decide +kernel
theorem dJ1_charAt_3b067_12 : decode cJ1_charAt_3b067 12 = .ok (.iand, 1) := by decide +kernel
theorem dJ1_charAt_3b067_13 : decode cJ1_charAt_3b067 13 = .ok (.i2c, 1) := by decide +kernel
theorem dJ1_charAt_3b067_14 : decode cJ1_charAt_3b067 14 = .ok (.ireturn, 1) := by decide +kernel
set_option maxHeartbeats 400000 in
set_option maxRecDepth 20000 in
theorem t_J1_charAt_3b067 (l : Launch) (ad : Nat → Nat) (D : va_G) (tys : List (ClassId × FieldType)) (bk : va_W) (pre post : va_W) (q k : Nat) (hq : q < 14) (hk : k < jsL.getD q 0) : CTi l yJ1_charAt_3b067 cJ1_charAt_3b067 2 .char ({ frames := 2, cells := 0, slots := 0, locals := 43 }) ad D tys (pre ++ (bk ++ post)) [.ref (ad (30 + q)), .int (nI k)] (nI (jsC q k)) (pre ++ (bk ++ post)) := by
  refine CTi.of (lv0 := [(0, .ref (ad (30 + q))), (1, .int (nI k))]) (by decide) rfl (Nat.le_of_ble_eq_true rfl) (fun p e s m args below meth c A C hr hlk => ?_)
  have C : Cx p s m args c cJ1_charAt_3b067 2 RJ1 ad D tys A := C
  have hL := js_l q hq
  have hc := js_c q hq k hk
  refine r_iload_n (pc := 0) C 1 dJ1_charAt_3b067_0 rfl rfl ?_
  refine r_aload_n (pc := 1) C 0 dJ1_charAt_3b067_1 rfl rfl ?_
  refine r_slen (pc := 2) C (by omega) dJ1_charAt_3b067_2 ?_
  refine rc_Sv (pc := 3) C (t_J0_checkIndex_df160 l ad D tys bk pre post  k (jsL.getD q 0) (by omega) (by omega)) ms_J0_checkIndex_df160 ml_RJ1_9 rfl ⟨Nat.le_of_ble_eq_true rfl, Nat.le_of_ble_eq_true rfl⟩ ⟨rfl, rfl⟩ rfl rfl rfl (Nat.le_of_ble_eq_true rfl) dJ1_charAt_3b067_3 ?_
  refine r_aload_n (pc := 6) C 0 dJ1_charAt_3b067_6 rfl rfl ?_
  refine r_iload_n (pc := 7) C 1 dJ1_charAt_3b067_7 rfl rfl ?_
  refine r_sbyt (pc := 8) C (by omega) k (rfl) (by omega) dJ1_charAt_3b067_8 ?_
  refine r_sipush (pc := 9) C 255 dJ1_charAt_3b067_9 (by decide) ?_
  refine r_iand (pc := 12) C dJ1_charAt_3b067_12 ?_
  refine r_i2c (pc := 13) C dJ1_charAt_3b067_13 ?_
  refine r_eqi (y := nI (jsC q k)) (hc.1) ?_
  exact r_iret (pc := 14) C hr hlk dJ1_charAt_3b067_14 (nar_ch _ hc.2) rfl rfl
theorem dJ0_charAt_5068e_0 : decode cJ0_charAt_5068e 0 = .ok (.aload_n 0, 1) := by decide +kernel
theorem dJ0_charAt_5068e_1 : decode cJ0_charAt_5068e 1 = .ok (.invokevirtual 492, 3) := by decide +kernel
theorem dJ0_charAt_5068e_4 : decode cJ0_charAt_5068e 4 = .ok (.ifCond .eq 12, 3) := by decide +kernel
theorem dJ0_charAt_5068e_7 : decode cJ0_charAt_5068e 7 = .ok (.aload_n 0, 1) := by decide +kernel
theorem dJ0_charAt_5068e_8 : decode cJ0_charAt_5068e 8 = .ok (.getfield 9, 3) := by decide +kernel
theorem dJ0_charAt_5068e_11 : decode cJ0_charAt_5068e 11 = .ok (.iload_n 1, 1) := by decide +kernel
theorem dJ0_charAt_5068e_12 : decode cJ0_charAt_5068e 12 = .ok (.invokestatic 495, 3) := by decide +kernel
theorem dJ0_charAt_5068e_15 : decode cJ0_charAt_5068e 15 = .ok (.ireturn, 1) := by decide +kernel
theorem dJ0_charAt_5068e_16 : decode cJ0_charAt_5068e 16 = .ok (.aload_n 0, 1) := by decide +kernel
theorem dJ0_charAt_5068e_17 : decode cJ0_charAt_5068e 17 = .ok (.getfield 9, 3) := by decide +kernel
theorem dJ0_charAt_5068e_20 : decode cJ0_charAt_5068e 20 = .ok (.iload_n 1, 1) := by decide +kernel
theorem dJ0_charAt_5068e_21 : decode cJ0_charAt_5068e 21 = .ok (.invokestatic 498, 3) := by decide +kernel
theorem dJ0_charAt_5068e_24 : decode cJ0_charAt_5068e 24 = .ok (.ireturn, 1) := by decide +kernel
set_option maxHeartbeats 400000 in
set_option maxRecDepth 20000 in
theorem t_J0_charAt_5068e (l : Launch) (ad : Nat → Nat) (D : va_G) (tys : List (ClassId × FieldType)) (bk : va_W) (pre post : va_W) (q k : Nat) (hq : q < 14) (hk : k < jsL.getD q 0) : CTi l yJ0_charAt_5068e cJ0_charAt_5068e 2 .char ({ frames := 4, cells := 0, slots := 0, locals := 85 }) ad D tys (pre ++ (bk ++ post)) [.ref (ad (10 + q)), .int (nI k)] (nI (jsC q k)) (pre ++ (bk ++ post)) := by
  refine CTi.of (lv0 := [(0, .ref (ad (10 + q))), (1, .int (nI k))]) (by decide) rfl (Nat.le_of_ble_eq_true rfl) (fun p e s m args below meth c A C hr hlk => ?_)
  have C : Cx p s m args c cJ0_charAt_5068e 2 RJ0 ad D tys A := C
  have hc := js_c q hq k hk
  refine r_aload_n (pc := 0) C 0 dJ0_charAt_5068e_0 rfl rfl ?_
  refine rc_Zi (pc := 1) C (t_J0_isLatin1_aae02 l ad D tys bk pre post  q hq) mv_J0_isLatin1_aae02 ml_RJ0_492 rfl ⟨Nat.le_of_ble_eq_true rfl, Nat.le_of_ble_eq_true rfl⟩ ⟨rfl, rfl⟩ (by omega) rfl rfl rfl rfl (Nat.le_of_ble_eq_true rfl) dJ0_charAt_5068e_1 ?_
  refine r_if_eq (pc := 4) C 16 dJ0_charAt_5068e_4 (by decide) (fun c_1 => ?_) (fun c_1 => ?_)
  · skip
    revert c_1; intro c_1
    exact absurd c_1 (by decide)
  · skip
    revert c_1; intro c_1
    refine r_aload_n (pc := 7) C 0 dJ0_charAt_5068e_7 rfl rfl ?_
    refine r_sval (by omega) (pc := 8) C fl_RJ0_9 dJ0_charAt_5068e_8 ?_
    refine r_iload_n (pc := 11) C 1 dJ0_charAt_5068e_11 rfl rfl ?_
    refine rc_Si (pc := 12) C (t_J1_charAt_3b067 l ad D tys bk pre post  q k hq hk) ms_J1_charAt_3b067 ml_RJ0_495 rfl ⟨Nat.le_of_ble_eq_true rfl, Nat.le_of_ble_eq_true rfl⟩ ⟨rfl, rfl⟩ rfl rfl rfl (Nat.le_of_ble_eq_true rfl) dJ0_charAt_5068e_12 ?_
    exact r_iret (pc := 15) C hr hlk dJ0_charAt_5068e_15 (nar_ch _ hc.2) rfl rfl
theorem dX3_isLetter_0 : decode cX3_isLetter 0 = .ok (.iload_n 0, 1) := by decide +kernel
theorem dX3_isLetter_1 : decode cX3_isLetter 1 = .ok (.bipush 97, 2) := by decide +kernel
theorem dX3_isLetter_3 : decode cX3_isLetter 3 = .ok (.if_icmp .lt 13, 3) := by decide +kernel
theorem dX3_isLetter_6 : decode cX3_isLetter 6 = .ok (.iload_n 0, 1) := by decide +kernel
theorem dX3_isLetter_7 : decode cX3_isLetter 7 = .ok (.bipush 122, 2) := by decide +kernel
theorem dX3_isLetter_9 : decode cX3_isLetter 9 = .ok (.if_icmp .gt 7, 3) := by decide +kernel
theorem dX3_isLetter_12 : decode cX3_isLetter 12 = .ok (.iconst 1, 1) := by decide +kernel
theorem dX3_isLetter_13 : decode cX3_isLetter 13 = .ok (.goto 4, 3) := by decide +kernel
theorem dX3_isLetter_16 : decode cX3_isLetter 16 = .ok (.iconst 0, 1) := by decide +kernel
theorem dX3_isLetter_17 : decode cX3_isLetter 17 = .ok (.ireturn, 1) := by decide +kernel
set_option maxHeartbeats 400000 in
set_option maxRecDepth 20000 in
theorem t_X3_isLetter (l : Launch) (ad : Nat → Nat) (D : va_G) (tys : List (ClassId × FieldType)) (bk : va_W) (pre post : va_W) (x : Int32)  : CTi l yX3_isLetter cX3_isLetter 1 .boolean ({ frames := 0, cells := 0, slots := 0, locals := 0 }) ad D tys (pre ++ (bk ++ post)) [.int x] (bI (alB x = true)) (pre ++ (bk ++ post)) := by
  refine CTi.of (lv0 := [(0, .int x)]) (by decide) rfl (Nat.le_of_ble_eq_true rfl) (fun p e s m args below meth c A C hr hlk => ?_)
  have C : Cx p s m args c cX3_isLetter 1 RX3 ad D tys A := C
  refine r_iload_n (pc := 0) C 0 dX3_isLetter_0 rfl rfl ?_
  refine r_bipush (pc := 1) C 97 dX3_isLetter_1 (by decide) ?_
  refine r_icmp_lt (pc := 3) C 16 dX3_isLetter_3 (by decide) (fun c_1 => ?_) (fun c_1 => ?_)
  · skip
    refine r_iconst (pc := 16) C 0 dX3_isLetter_16 (by decide) ?_
    exact r_iret (pc := 17) C hr hlk dX3_isLetter_17 rfl (by simp_all [bI, alB]) rfl
  · skip
    refine r_iload_n (pc := 6) C 0 dX3_isLetter_6 rfl rfl ?_
    refine r_bipush (pc := 7) C 122 dX3_isLetter_7 (by decide) ?_
    refine r_icmp_gt (pc := 9) C 16 dX3_isLetter_9 (by decide) (fun c_2 => ?_) (fun c_2 => ?_)
    · skip
      refine r_iconst (pc := 16) C 0 dX3_isLetter_16 (by decide) ?_
      exact r_iret (pc := 17) C hr hlk dX3_isLetter_17 rfl (by simp_all [bI, alB]) rfl
    · skip
      refine r_iconst (pc := 12) C 1 dX3_isLetter_12 (by decide) ?_
      refine r_goto (pc := 13) C 17 dX3_isLetter_13 (by decide) ?_
      exact r_iret (pc := 17) C hr hlk dX3_isLetter_17 rfl (by simp_all [bI, alB]) rfl
theorem dX3_isDigit_0 : decode cX3_isDigit 0 = .ok (.iload_n 0, 1) := by decide +kernel
theorem dX3_isDigit_1 : decode cX3_isDigit 1 = .ok (.bipush 48, 2) := by decide +kernel
theorem dX3_isDigit_3 : decode cX3_isDigit 3 = .ok (.if_icmp .lt 13, 3) := by decide +kernel
theorem dX3_isDigit_6 : decode cX3_isDigit 6 = .ok (.iload_n 0, 1) := by decide +kernel
theorem dX3_isDigit_7 : decode cX3_isDigit 7 = .ok (.bipush 57, 2) := by decide +kernel
theorem dX3_isDigit_9 : decode cX3_isDigit 9 = .ok (.if_icmp .gt 7, 3) := by decide +kernel
theorem dX3_isDigit_12 : decode cX3_isDigit 12 = .ok (.iconst 1, 1) := by decide +kernel
theorem dX3_isDigit_13 : decode cX3_isDigit 13 = .ok (.goto 4, 3) := by decide +kernel
theorem dX3_isDigit_16 : decode cX3_isDigit 16 = .ok (.iconst 0, 1) := by decide +kernel
theorem dX3_isDigit_17 : decode cX3_isDigit 17 = .ok (.ireturn, 1) := by decide +kernel
set_option maxHeartbeats 400000 in
set_option maxRecDepth 20000 in
theorem t_X3_isDigit (l : Launch) (ad : Nat → Nat) (D : va_G) (tys : List (ClassId × FieldType)) (bk : va_W) (pre post : va_W) (x : Int32)  : CTi l yX3_isDigit cX3_isDigit 1 .boolean ({ frames := 0, cells := 0, slots := 0, locals := 0 }) ad D tys (pre ++ (bk ++ post)) [.int x] (bI (dgB x = true)) (pre ++ (bk ++ post)) := by
  refine CTi.of (lv0 := [(0, .int x)]) (by decide) rfl (Nat.le_of_ble_eq_true rfl) (fun p e s m args below meth c A C hr hlk => ?_)
  have C : Cx p s m args c cX3_isDigit 1 RX3 ad D tys A := C
  refine r_iload_n (pc := 0) C 0 dX3_isDigit_0 rfl rfl ?_
  refine r_bipush (pc := 1) C 48 dX3_isDigit_1 (by decide) ?_
  refine r_icmp_lt (pc := 3) C 16 dX3_isDigit_3 (by decide) (fun c_1 => ?_) (fun c_1 => ?_)
  · skip
    refine r_iconst (pc := 16) C 0 dX3_isDigit_16 (by decide) ?_
    exact r_iret (pc := 17) C hr hlk dX3_isDigit_17 rfl (by simp_all [bI, dgB]) rfl
  · skip
    refine r_iload_n (pc := 6) C 0 dX3_isDigit_6 rfl rfl ?_
    refine r_bipush (pc := 7) C 57 dX3_isDigit_7 (by decide) ?_
    refine r_icmp_gt (pc := 9) C 16 dX3_isDigit_9 (by decide) (fun c_2 => ?_) (fun c_2 => ?_)
    · skip
      refine r_iconst (pc := 16) C 0 dX3_isDigit_16 (by decide) ?_
      exact r_iret (pc := 17) C hr hlk dX3_isDigit_17 rfl (by simp_all [bI, dgB]) rfl
    · skip
      refine r_iconst (pc := 12) C 1 dX3_isDigit_12 (by decide) ?_
      refine r_goto (pc := 13) C 17 dX3_isDigit_13 (by decide) ?_
      exact r_iret (pc := 17) C hr hlk dX3_isDigit_17 rfl (by simp_all [bI, dgB]) rfl
theorem dX3_readWord_0 : decode cX3_readWord 0 = .ok (.aload_n 0, 1) := by decide +kernel
theorem dX3_readWord_1 : decode cX3_readWord 1 = .ok (.getfield 26, 3) := by decide +kernel
theorem dX3_readWord_4 : decode cX3_readWord 4 = .ok (.aload_n 0, 1) := by decide +kernel
theorem dX3_readWord_5 : decode cX3_readWord 5 = .ok (.getfield 22, 3) := by decide +kernel
theorem dX3_readWord_8 : decode cX3_readWord 8 = .ok (.if_icmp .ge 30, 3) := by decide +kernel
theorem dX3_readWord_11 : decode cX3_readWord 11 = .ok (.aload_n 0, 1) := by decide +kernel
theorem dX3_readWord_12 : decode cX3_readWord 12 = .ok (.getfield 18, 3) := by decide +kernel
theorem dX3_readWord_15 : decode cX3_readWord 15 = .ok (.aload_n 0, 1) := by decide +kernel
theorem dX3_readWord_16 : decode cX3_readWord 16 = .ok (.getfield 26, 3) := by decide +kernel
theorem dX3_readWord_19 : decode cX3_readWord 19 = .ok (.baload, 1) := by decide +kernel
theorem dX3_readWord_20 : decode cX3_readWord 20 = .ok (.bipush 32, 2) := by decide +kernel
theorem dX3_readWord_22 : decode cX3_readWord 22 = .ok (.if_icmp .ne 16, 3) := by decide +kernel
theorem dX3_readWord_25 : decode cX3_readWord 25 = .ok (.aload_n 0, 1) := by decide +kernel
theorem dX3_readWord_26 : decode cX3_readWord 26 = .ok (.dup, 1) := by decide +kernel
theorem dX3_readWord_27 : decode cX3_readWord 27 = .ok (.getfield 26, 3) := by decide +kernel
theorem dX3_readWord_30 : decode cX3_readWord 30 = .ok (.iconst 1, 1) := by decide +kernel
theorem dX3_readWord_31 : decode cX3_readWord 31 = .ok (.iadd, 1) := by decide +kernel
theorem dX3_readWord_32 : decode cX3_readWord 32 = .ok (.putfield 26, 3) := by decide +kernel
theorem dX3_readWord_35 : decode cX3_readWord 35 = .ok (.goto (-35), 3) := by decide +kernel
theorem dX3_readWord_38 : decode cX3_readWord 38 = .ok (.aload_n 0, 1) := by decide +kernel
theorem dX3_readWord_39 : decode cX3_readWord 39 = .ok (.aload_n 0, 1) := by decide +kernel
theorem dX3_readWord_40 : decode cX3_readWord 40 = .ok (.getfield 26, 3) := by decide +kernel
theorem dX3_readWord_43 : decode cX3_readWord 43 = .ok (.putfield 42, 3) := by decide +kernel
theorem dX3_readWord_46 : decode cX3_readWord 46 = .ok (.aload_n 0, 1) := by decide +kernel
theorem dX3_readWord_47 : decode cX3_readWord 47 = .ok (.getfield 26, 3) := by decide +kernel
theorem dX3_readWord_50 : decode cX3_readWord 50 = .ok (.aload_n 0, 1) := by decide +kernel
theorem dX3_readWord_51 : decode cX3_readWord 51 = .ok (.getfield 22, 3) := by decide +kernel
theorem dX3_readWord_54 : decode cX3_readWord 54 = .ok (.if_icmp .lt 11, 3) := by decide +kernel
theorem dX3_readWord_57 : decode cX3_readWord 57 = .ok (.aload_n 0, 1) := by decide +kernel
theorem dX3_readWord_58 : decode cX3_readWord 58 = .ok (.iconst 0, 1) := by decide +kernel
theorem dX3_readWord_59 : decode cX3_readWord 59 = .ok (.putfield 35, 3) := by decide +kernel
theorem dX3_readWord_62 : decode cX3_readWord 62 = .ok (.goto 136, 3) := by decide +kernel
theorem dX3_readWord_65 : decode cX3_readWord 65 = .ok (.aload_n 0, 1) := by decide +kernel
theorem dX3_readWord_66 : decode cX3_readWord 66 = .ok (.getfield 18, 3) := by decide +kernel
theorem dX3_readWord_69 : decode cX3_readWord 69 = .ok (.aload_n 0, 1) := by decide +kernel
theorem dX3_readWord_70 : decode cX3_readWord 70 = .ok (.getfield 26, 3) := by decide +kernel
theorem dX3_readWord_73 : decode cX3_readWord 73 = .ok (.baload, 1) := by decide +kernel
theorem dX3_readWord_74 : decode cX3_readWord 74 = .ok (.invokestatic 123, 3) := by decide +kernel
theorem dX3_readWord_77 : decode cX3_readWord 77 = .ok (.ifCond .eq 47, 3) := by decide +kernel
theorem dX3_readWord_80 : decode cX3_readWord 80 = .ok (.aload_n 0, 1) := by decide +kernel
theorem dX3_readWord_81 : decode cX3_readWord 81 = .ok (.iconst 1, 1) := by decide +kernel
theorem dX3_readWord_82 : decode cX3_readWord 82 = .ok (.putfield 35, 3) := by decide +kernel
theorem dX3_readWord_85 : decode cX3_readWord 85 = .ok (.aload_n 0, 1) := by decide +kernel
theorem dX3_readWord_86 : decode cX3_readWord 86 = .ok (.getfield 26, 3) := by decide +kernel
theorem dX3_readWord_89 : decode cX3_readWord 89 = .ok (.aload_n 0, 1) := by decide +kernel
theorem dX3_readWord_90 : decode cX3_readWord 90 = .ok (.getfield 22, 3) := by decide +kernel
theorem dX3_readWord_93 : decode cX3_readWord 93 = .ok (.if_icmp .ge 105, 3) := by decide +kernel
theorem dX3_readWord_96 : decode cX3_readWord 96 = .ok (.aload_n 0, 1) := by decide +kernel
theorem dX3_readWord_97 : decode cX3_readWord 97 = .ok (.getfield 18, 3) := by decide +kernel
theorem dX3_readWord_100 : decode cX3_readWord 100 = .ok (.aload_n 0, 1) := by decide +kernel
theorem dX3_readWord_101 : decode cX3_readWord 101 = .ok (.getfield 26, 3) := by decide +kernel
theorem dX3_readWord_104 : decode cX3_readWord 104 = .ok (.baload, 1) := by decide +kernel
theorem dX3_readWord_105 : decode cX3_readWord 105 = .ok (.invokestatic 123, 3) := by decide +kernel
theorem dX3_readWord_108 : decode cX3_readWord 108 = .ok (.ifCond .eq 90, 3) := by decide +kernel
theorem dX3_readWord_111 : decode cX3_readWord 111 = .ok (.aload_n 0, 1) := by decide +kernel
theorem dX3_readWord_112 : decode cX3_readWord 112 = .ok (.dup, 1) := by decide +kernel
theorem dX3_readWord_113 : decode cX3_readWord 113 = .ok (.getfield 26, 3) := by decide +kernel
theorem dX3_readWord_116 : decode cX3_readWord 116 = .ok (.iconst 1, 1) := by decide +kernel
theorem dX3_readWord_117 : decode cX3_readWord 117 = .ok (.iadd, 1) := by decide +kernel
theorem dX3_readWord_118 : decode cX3_readWord 118 = .ok (.putfield 26, 3) := by decide +kernel
theorem dX3_readWord_121 : decode cX3_readWord 121 = .ok (.goto (-36), 3) := by decide +kernel
theorem dX3_readWord_124 : decode cX3_readWord 124 = .ok (.aload_n 0, 1) := by decide +kernel
theorem dX3_readWord_125 : decode cX3_readWord 125 = .ok (.getfield 18, 3) := by decide +kernel
theorem dX3_readWord_128 : decode cX3_readWord 128 = .ok (.aload_n 0, 1) := by decide +kernel
theorem dX3_readWord_129 : decode cX3_readWord 129 = .ok (.getfield 26, 3) := by decide +kernel
theorem dX3_readWord_132 : decode cX3_readWord 132 = .ok (.baload, 1) := by decide +kernel
theorem dX3_readWord_133 : decode cX3_readWord 133 = .ok (.invokestatic 127, 3) := by decide +kernel
theorem dX3_readWord_136 : decode cX3_readWord 136 = .ok (.ifCond .eq 47, 3) := by decide +kernel
theorem dX3_readWord_139 : decode cX3_readWord 139 = .ok (.aload_n 0, 1) := by decide +kernel
theorem dX3_readWord_140 : decode cX3_readWord 140 = .ok (.iconst 2, 1) := by decide +kernel
theorem dX3_readWord_141 : decode cX3_readWord 141 = .ok (.putfield 35, 3) := by decide +kernel
theorem dX3_readWord_144 : decode cX3_readWord 144 = .ok (.aload_n 0, 1) := by decide +kernel
theorem dX3_readWord_145 : decode cX3_readWord 145 = .ok (.getfield 26, 3) := by decide +kernel
theorem dX3_readWord_148 : decode cX3_readWord 148 = .ok (.aload_n 0, 1) := by decide +kernel
theorem dX3_readWord_149 : decode cX3_readWord 149 = .ok (.getfield 22, 3) := by decide +kernel
theorem dX3_readWord_152 : decode cX3_readWord 152 = .ok (.if_icmp .ge 46, 3) := by decide +kernel
theorem dX3_readWord_155 : decode cX3_readWord 155 = .ok (.aload_n 0, 1) := by decide +kernel
theorem dX3_readWord_156 : decode cX3_readWord 156 = .ok (.getfield 18, 3) := by decide +kernel
theorem dX3_readWord_159 : decode cX3_readWord 159 = .ok (.aload_n 0, 1) := by decide +kernel
theorem dX3_readWord_160 : decode cX3_readWord 160 = .ok (.getfield 26, 3) := by decide +kernel
theorem dX3_readWord_163 : decode cX3_readWord 163 = .ok (.baload, 1) := by decide +kernel
theorem dX3_readWord_164 : decode cX3_readWord 164 = .ok (.invokestatic 127, 3) := by decide +kernel
theorem dX3_readWord_167 : decode cX3_readWord 167 = .ok (.ifCond .eq 31, 3) := by decide +kernel
theorem dX3_readWord_170 : decode cX3_readWord 170 = .ok (.aload_n 0, 1) := by decide +kernel
theorem dX3_readWord_171 : decode cX3_readWord 171 = .ok (.dup, 1) := by decide +kernel
theorem dX3_readWord_172 : decode cX3_readWord 172 = .ok (.getfield 26, 3) := by decide +kernel
theorem dX3_readWord_175 : decode cX3_readWord 175 = .ok (.iconst 1, 1) := by decide +kernel
theorem dX3_readWord_176 : decode cX3_readWord 176 = .ok (.iadd, 1) := by decide +kernel
theorem dX3_readWord_177 : decode cX3_readWord 177 = .ok (.putfield 26, 3) := by decide +kernel
theorem dX3_readWord_180 : decode cX3_readWord 180 = .ok (.goto (-36), 3) := by decide +kernel
theorem dX3_readWord_183 : decode cX3_readWord 183 = .ok (.aload_n 0, 1) := by decide +kernel
theorem dX3_readWord_184 : decode cX3_readWord 184 = .ok (.iconst 3, 1) := by decide +kernel
theorem dX3_readWord_185 : decode cX3_readWord 185 = .ok (.putfield 35, 3) := by decide +kernel
theorem dX3_readWord_188 : decode cX3_readWord 188 = .ok (.aload_n 0, 1) := by decide +kernel
theorem dX3_readWord_189 : decode cX3_readWord 189 = .ok (.dup, 1) := by decide +kernel
theorem dX3_readWord_190 : decode cX3_readWord 190 = .ok (.getfield 26, 3) := by decide +kernel
theorem dX3_readWord_193 : decode cX3_readWord 193 = .ok (.iconst 1, 1) := by decide +kernel
theorem dX3_readWord_194 : decode cX3_readWord 194 = .ok (.iadd, 1) := by decide +kernel
theorem dX3_readWord_195 : decode cX3_readWord 195 = .ok (.putfield 26, 3) := by decide +kernel
theorem dX3_readWord_198 : decode cX3_readWord 198 = .ok (.return_, 1) := by decide +kernel
set_option maxHeartbeats 400000 in
set_option maxRecDepth 20000 in
theorem t_X3_readWord (l : Launch) (ad : Nat → Nat) (D : va_G) (cs : Nat → ClassId) (h : Nat → Nat) (σ : Nat → Nat → Int32) (pre post : va_W) (t i : Nat) (hT : σ 6 0 = nI t) (ht : t ≤ 200) (hb : ∀ j : Nat, j < t → 0 ≤ (σ 5 j).toInt ∧ (σ 5 j).toInt ≤ 255) (h9 : σ 9 0 = nI i) (hi : i ≤ t) : CTv l yX3_readWord cX3_readWord 1 ({ frames := 1, cells := 0, slots := 0, locals := 20 }) ad D (tysW cs) (pre ++ (wX cs h σ ++ post)) [.ref (h 33)] (pre ++ (wX cs h (su (su (su σ 7 (fun _ => nI (tkK (σ 5) t i))) 8 (fun _ => nI (tkF (σ 5) t i))) 9 (fun _ => nI (tkT (σ 5) t i))) ++ post)) := by
  refine CTv.of (lv0 := [(0, .ref (h 33))]) (by decide) rfl (Nat.le_of_ble_eq_true rfl) (fun p e s m args below meth c A C hr hlk => ?_)
  have C : Cx p s m args c cX3_readWord 1 RX3 ad D (tysW cs) A := C
  refine r_pick (lv' := [(0, .ref (h 33))]) [0] rfl ?_
  refine r_blk (blk' := wX cs h (su σ 9 (fun _ => nI i))) (by rw [show (fun _ => nI i : Nat → Int32) = (fun _ => σ 9 0) from funext (fun _ => h9.symm)] <;> rfl) ?_
  refine r_loop (blkf := fun pp => wX cs h (su σ 9 (fun _ => nI pp))) (lvf := fun pp => [(0, .ref (h 33))]) (fun pp => tkF (σ 5) t i = endF (spP (σ 5)) (t - pp) pp) t i (by omega) (rfl) (fun pp h_pp hx ih_0 => ?_)
  show VX p l e _ s m args below meth c _ D A 1 pre (wX cs h (su σ 9 (fun _ => nI pp))) post 0 [(0, .ref (h 33))] []
  refine r_aload_n (pc := 0) C 0 dX3_readWord_0 rfl rfl ?_
  refine xg_t_next (pc := 1) C fl_RX3_26 dX3_readWord_1 (nI pp) (congrFun (su_at) 0) ?_
  refine r_aload_n (pc := 4) C 0 dX3_readWord_4 rfl rfl ?_
  refine xg_t_size (pc := 5) C fl_RX3_22 dX3_readWord_5 (σ 6 0) (congrFun ((su_nn (by decide))) 0) ?_
  refine r_eqi (y := nI t) (hT) ?_
  refine r_icmp_ge (pc := 8) C 38 dX3_readWord_8 (by decide) (fun c_1 => ?_) (fun c_1 => ?_)
  · skip
    have c_1 := nIc_ge_t (a := pp) (b := t) (by omega) (by omega) c_1
    obtain rfl : t = pp := by omega
    have hF : tkF (σ 5) t i = t := hx.trans (en_stop (fun h_ => absurd h_ (Nat.lt_irrefl _)))
    refine r_blk (blk' := wX cs h (su σ 9 (fun _ => nI (tkF (σ 5) t i)))) (by rw [show (fun _ => nI (tkF (σ 5) t i) : Nat → Int32) = fun _ => nI t from Eq.symm (by rw [hF])] <;> rfl) ?_
    have hf1 := tkF_le (T := σ 5) hi
    clear hF hx
    refine r_aload_n (pc := 38) C 0 dX3_readWord_38 rfl rfl ?_
    refine r_aload_n (pc := 39) C 0 dX3_readWord_39 rfl rfl ?_
    refine xg_t_next (pc := 40) C fl_RX3_26 dX3_readWord_40 (nI (tkF (σ 5) t i)) (congrFun (su_at) 0) ?_
    refine xp_t_wordStart (pc := 43) C fl_RX3_42 dX3_readWord_43 ?_
    refine r_blk (blk' := wX cs h (su (su σ 8 (fun _ => nI (tkF (σ 5) t i))) 9 (fun _ => nI (tkF (σ 5) t i)))) (congrArg (wX cs h) (by rw [su_cm (k := 9) (j := 8) (by decide)])) ?_
    refine r_aload_n (pc := 46) C 0 dX3_readWord_46 rfl rfl ?_
    refine xg_t_next (pc := 47) C fl_RX3_26 dX3_readWord_47 (nI (tkF (σ 5) t i)) (congrFun (su_at) 0) ?_
    refine r_aload_n (pc := 50) C 0 dX3_readWord_50 rfl rfl ?_
    refine xg_t_size (pc := 51) C fl_RX3_22 dX3_readWord_51 (σ 6 0) (congrFun (((su_nn (by decide)).trans (su_nn (by decide)))) 0) ?_
    refine r_eqi (y := nI t) (hT) ?_
    refine r_icmp_lt (pc := 54) C 65 dX3_readWord_54 (by decide) (fun c_2 => ?_) (fun c_2 => ?_)
    · skip
      have c_2 := nIc_lt_t (a := (tkF (σ 5) t i)) (b := t) (by omega) (by omega) c_2
      refine r_aload_n (pc := 65) C 0 dX3_readWord_65 rfl rfl ?_
      refine xg_t_text (pc := 66) C fl_RX3_18 dX3_readWord_66 ?_
      refine r_aload_n (pc := 69) C 0 dX3_readWord_69 rfl rfl ?_
      refine xg_t_next (pc := 70) C fl_RX3_26 dX3_readWord_70 (nI (tkF (σ 5) t i)) (congrFun (su_at) 0) ?_
      refine xl_text (pc := 73) C (tkF (σ 5) t i) (rfl) (by omega) dX3_readWord_73 ((σ 5 (tkF (σ 5) t i)).toInt8.toInt32) (by rw [((su_nn (by decide)).trans (su_nn (by decide)))]) ?_
      refine rc_Si (pc := 74) C (t_X3_isLetter l ad D (tysW cs) (wX cs h (su (su σ 8 (fun _ => nI (tkF (σ 5) t i))) 9 (fun _ => nI (tkF (σ 5) t i)))) pre post  ((σ 5 (tkF (σ 5) t i)).toInt8.toInt32) ) ms_X3_isLetter ml_RX3_123 rfl ⟨Nat.le_of_ble_eq_true rfl, Nat.le_of_ble_eq_true rfl⟩ ⟨rfl, rfl⟩ rfl rfl rfl (Nat.le_of_ble_eq_true rfl) dX3_readWord_74 ?_
      refine r_eqi (y := bI (alB (σ 5 (tkF (σ 5) t i)) = true)) (by rw [b8_al (hb _ (by omega))]) ?_
      refine r_if_eq (pc := 77) C 124 dX3_readWord_77 (by decide) (fun c_3 => ?_) (fun c_3 => ?_)
      · skip
        have c_3 := bI_0.mp c_3
        refine r_aload_n (pc := 124) C 0 dX3_readWord_124 rfl rfl ?_
        refine xg_t_text (pc := 125) C fl_RX3_18 dX3_readWord_125 ?_
        refine r_aload_n (pc := 128) C 0 dX3_readWord_128 rfl rfl ?_
        refine xg_t_next (pc := 129) C fl_RX3_26 dX3_readWord_129 (nI (tkF (σ 5) t i)) (congrFun (su_at) 0) ?_
        refine xl_text (pc := 132) C (tkF (σ 5) t i) (rfl) (by omega) dX3_readWord_132 ((σ 5 (tkF (σ 5) t i)).toInt8.toInt32) (by rw [((su_nn (by decide)).trans (su_nn (by decide)))]) ?_
        refine rc_Si (pc := 133) C (t_X3_isDigit l ad D (tysW cs) (wX cs h (su (su σ 8 (fun _ => nI (tkF (σ 5) t i))) 9 (fun _ => nI (tkF (σ 5) t i)))) pre post  ((σ 5 (tkF (σ 5) t i)).toInt8.toInt32) ) ms_X3_isDigit ml_RX3_127 rfl ⟨Nat.le_of_ble_eq_true rfl, Nat.le_of_ble_eq_true rfl⟩ ⟨rfl, rfl⟩ rfl rfl rfl (Nat.le_of_ble_eq_true rfl) dX3_readWord_133 ?_
        refine r_eqi (y := bI (dgB (σ 5 (tkF (σ 5) t i)) = true)) (by rw [b8_dg (hb _ (by omega))]) ?_
        refine r_if_eq (pc := 136) C 183 dX3_readWord_136 (by decide) (fun c_4 => ?_) (fun c_4 => ?_)
        · skip
          have c_4 := bI_0.mp c_4
          refine r_aload_n (pc := 183) C 0 dX3_readWord_183 rfl rfl ?_
          refine r_iconst (pc := 184) C 3 dX3_readWord_184 (by decide) ?_
          refine xp_t_word (pc := 185) C fl_RX3_35 dX3_readWord_185 ?_
          refine r_blk (blk' := wX cs h (su (su (su σ 7 (fun _ => 3)) 8 (fun _ => nI (tkF (σ 5) t i))) 9 (fun _ => nI (tkF (σ 5) t i)))) (congrArg (wX cs h) (by rw [su_cm (k := 9) (j := 7) (by decide), su_cm (k := 8) (j := 7) (by decide)])) ?_
          refine r_aload_n (pc := 188) C 0 dX3_readWord_188 rfl rfl ?_
          refine r_dup (pc := 189) C dX3_readWord_189 rfl ?_
          refine xg_t_next (pc := 190) C fl_RX3_26 dX3_readWord_190 (nI (tkF (σ 5) t i)) (congrFun (su_at) 0) ?_
          refine r_iconst (pc := 193) C 1 dX3_readWord_193 (by decide) ?_
          refine r_iadd (pc := 194) C dX3_readWord_194 ?_
          refine r_eqi (y := nI (tkF (σ 5) t i + 1)) (nI_add (tkF (σ 5) t i) 1) ?_
          refine xp_t_next (pc := 195) C fl_RX3_26 dX3_readWord_195 ?_
          refine r_blk (blk' := wX cs h (su (su (su σ 7 (fun _ => 3)) 8 (fun _ => nI (tkF (σ 5) t i))) 9 (fun _ => nI (tkF (σ 5) t i + 1)))) (congrArg (wX cs h) (by rw [su_su])) ?_
          have hb_ : bA (σ 5) t (tkF (σ 5) t i) = σ 5 (tkF (σ 5) t i) := bA_lt (by omega)
          have h0_ : 0 ≤ σ 5 (tkF (σ 5) t i) := by rw [Int32.le_iff_toInt_le]; exact (hb _ (by omega)).1
          have hK : tkK (σ 5) t i = 3 := by unfold tkK; rw [hb_, if_pos h0_]; simp [*]
          have hTT : tkT (σ 5) t i = tkF (σ 5) t i + 1 := by rw [tkT, if_neg (by omega), if_neg (by omega), if_pos hK]
          exact r_vret (pc := 198) C hr hlk dX3_readWord_198 (by rw [hK, hTT] <;> rfl)
        · skip
          have c_4 := bI_n.mp c_4
          refine r_aload_n (pc := 139) C 0 dX3_readWord_139 rfl rfl ?_
          refine r_iconst (pc := 140) C 2 dX3_readWord_140 (by decide) ?_
          refine xp_t_word (pc := 141) C fl_RX3_35 dX3_readWord_141 ?_
          refine r_blk (blk' := wX cs h (su (su (su σ 7 (fun _ => 2)) 8 (fun _ => nI (tkF (σ 5) t i))) 9 (fun _ => nI (tkF (σ 5) t i)))) (congrArg (wX cs h) (by rw [su_cm (k := 9) (j := 7) (by decide), su_cm (k := 8) (j := 7) (by decide)])) ?_
          refine r_pick (lv' := [(0, .ref (h 33))]) [0] rfl ?_
          refine r_loop (blkf := fun pp => wX cs h (su (su (su σ 7 (fun _ => 2)) 8 (fun _ => nI (tkF (σ 5) t i))) 9 (fun _ => nI pp))) (lvf := fun pp => [(0, .ref (h 33))]) (fun pp => endF (dgP (σ 5)) (t - tkF (σ 5) t i) (tkF (σ 5) t i) = endF (dgP (σ 5)) (t - pp) pp) t (tkF (σ 5) t i) (by omega) (rfl) (fun pp h_pp hx ih_144 => ?_)
          show VX p l e _ s m args below meth c _ D A 1 pre (wX cs h (su (su (su σ 7 (fun _ => 2)) 8 (fun _ => nI (tkF (σ 5) t i))) 9 (fun _ => nI pp))) post 144 [(0, .ref (h 33))] []
          refine r_aload_n (pc := 144) C 0 dX3_readWord_144 rfl rfl ?_
          refine xg_t_next (pc := 145) C fl_RX3_26 dX3_readWord_145 (nI pp) (congrFun (su_at) 0) ?_
          refine r_aload_n (pc := 148) C 0 dX3_readWord_148 rfl rfl ?_
          refine xg_t_size (pc := 149) C fl_RX3_22 dX3_readWord_149 (σ 6 0) (congrFun ((((su_nn (by decide)).trans (su_nn (by decide))).trans (su_nn (by decide)))) 0) ?_
          refine r_eqi (y := nI t) (hT) ?_
          refine r_icmp_ge (pc := 152) C 198 dX3_readWord_152 (by decide) (fun c_5 => ?_) (fun c_5 => ?_)
          · skip
            have c_5 := nIc_ge_t (a := pp) (b := t) (by omega) (by omega) c_5
            obtain rfl : t = pp := by omega
            have hA := hx.trans (en_stop (fun h_ => absurd h_ (Nat.lt_irrefl _)))
            have hb_ : bA (σ 5) t (tkF (σ 5) t i) = σ 5 (tkF (σ 5) t i) := bA_lt (by omega)
            have h0_ : 0 ≤ σ 5 (tkF (σ 5) t i) := by rw [Int32.le_iff_toInt_le]; exact (hb _ (by omega)).1
            have hK : tkK (σ 5) t i = 2 := by unfold tkK; rw [hb_, if_pos h0_]; simp [*]
            have hTT : tkT (σ 5) t i = t := by rw [tkT, if_neg (by omega), if_pos hK]; exact hA
            exact r_vret (pc := 198) C hr hlk dX3_readWord_198 (by rw [hK, hTT] <;> rfl)
          · skip
            have c_5 := nIc_ge_f (a := pp) (b := t) (by omega) (by omega) c_5
            refine r_aload_n (pc := 155) C 0 dX3_readWord_155 rfl rfl ?_
            refine xg_t_text (pc := 156) C fl_RX3_18 dX3_readWord_156 ?_
            refine r_aload_n (pc := 159) C 0 dX3_readWord_159 rfl rfl ?_
            refine xg_t_next (pc := 160) C fl_RX3_26 dX3_readWord_160 (nI pp) (congrFun (su_at) 0) ?_
            refine xl_text (pc := 163) C pp (rfl) (by omega) dX3_readWord_163 ((σ 5 pp).toInt8.toInt32) (by rw [(((su_nn (by decide)).trans (su_nn (by decide))).trans (su_nn (by decide)))]) ?_
            refine rc_Si (pc := 164) C (t_X3_isDigit l ad D (tysW cs) (wX cs h (su (su (su σ 7 (fun _ => 2)) 8 (fun _ => nI (tkF (σ 5) t i))) 9 (fun _ => nI pp))) pre post  ((σ 5 pp).toInt8.toInt32) ) ms_X3_isDigit ml_RX3_127 rfl ⟨Nat.le_of_ble_eq_true rfl, Nat.le_of_ble_eq_true rfl⟩ ⟨rfl, rfl⟩ rfl rfl rfl (Nat.le_of_ble_eq_true rfl) dX3_readWord_164 ?_
            refine r_eqi (y := bI (dgB (σ 5 pp) = true)) (by rw [b8_dg (hb _ (by omega))]) ?_
            refine r_if_eq (pc := 167) C 198 dX3_readWord_167 (by decide) (fun c_6 => ?_) (fun c_6 => ?_)
            · skip
              have c_6 := bI_0.mp c_6
              have hA := hx.trans (en_stop (P := dgP (σ 5)) (fun _ => Bool.not_eq_true _ ▸ c_6))
              have hb_ : bA (σ 5) t (tkF (σ 5) t i) = σ 5 (tkF (σ 5) t i) := bA_lt (by omega)
              have h0_ : 0 ≤ σ 5 (tkF (σ 5) t i) := by rw [Int32.le_iff_toInt_le]; exact (hb _ (by omega)).1
              have hK : tkK (σ 5) t i = 2 := by unfold tkK; rw [hb_, if_pos h0_]; simp [*]
              have hTT : tkT (σ 5) t i = pp := by rw [tkT, if_neg (by omega), if_pos hK]; exact hA
              exact r_vret (pc := 198) C hr hlk dX3_readWord_198 (by rw [hK, hTT] <;> rfl)
            · skip
              have c_6 := bI_n.mp c_6
              have hs2 : dgP (σ 5) pp = true := c_6
              refine r_aload_n (pc := 170) C 0 dX3_readWord_170 rfl rfl ?_
              refine r_dup (pc := 171) C dX3_readWord_171 rfl ?_
              refine xg_t_next (pc := 172) C fl_RX3_26 dX3_readWord_172 (nI pp) (congrFun (su_at) 0) ?_
              refine r_iconst (pc := 175) C 1 dX3_readWord_175 (by decide) ?_
              refine r_iadd (pc := 176) C dX3_readWord_176 ?_
              refine r_eqi (y := nI (pp + 1)) (nI_add pp 1) ?_
              refine xp_t_next (pc := 177) C fl_RX3_26 dX3_readWord_177 ?_
              refine r_blk (blk' := wX cs h (su (su (su σ 7 (fun _ => 2)) 8 (fun _ => nI (tkF (σ 5) t i))) 9 (fun _ => nI (pp + 1)))) (congrArg (wX cs h) (by rw [su_su])) ?_
              refine r_goto (pc := 180) C 144 dX3_readWord_180 (by decide) ?_
              refine r_pick (lv' := [(0, .ref (h 33))]) [0] rfl ?_
              exact ih_144 (by omega) (hx.trans (en_next (by omega) hs2))
      · skip
        have c_3 := bI_n.mp c_3
        refine r_aload_n (pc := 80) C 0 dX3_readWord_80 rfl rfl ?_
        refine r_iconst (pc := 81) C 1 dX3_readWord_81 (by decide) ?_
        refine xp_t_word (pc := 82) C fl_RX3_35 dX3_readWord_82 ?_
        refine r_blk (blk' := wX cs h (su (su (su σ 7 (fun _ => 1)) 8 (fun _ => nI (tkF (σ 5) t i))) 9 (fun _ => nI (tkF (σ 5) t i)))) (congrArg (wX cs h) (by rw [su_cm (k := 9) (j := 7) (by decide), su_cm (k := 8) (j := 7) (by decide)])) ?_
        refine r_pick (lv' := [(0, .ref (h 33))]) [0] rfl ?_
        refine r_loop (blkf := fun pp => wX cs h (su (su (su σ 7 (fun _ => 1)) 8 (fun _ => nI (tkF (σ 5) t i))) 9 (fun _ => nI pp))) (lvf := fun pp => [(0, .ref (h 33))]) (fun pp => endF (alP (σ 5)) (t - tkF (σ 5) t i) (tkF (σ 5) t i) = endF (alP (σ 5)) (t - pp) pp) t (tkF (σ 5) t i) (by omega) (rfl) (fun pp h_pp hx ih_85 => ?_)
        show VX p l e _ s m args below meth c _ D A 1 pre (wX cs h (su (su (su σ 7 (fun _ => 1)) 8 (fun _ => nI (tkF (σ 5) t i))) 9 (fun _ => nI pp))) post 85 [(0, .ref (h 33))] []
        refine r_aload_n (pc := 85) C 0 dX3_readWord_85 rfl rfl ?_
        refine xg_t_next (pc := 86) C fl_RX3_26 dX3_readWord_86 (nI pp) (congrFun (su_at) 0) ?_
        refine r_aload_n (pc := 89) C 0 dX3_readWord_89 rfl rfl ?_
        refine xg_t_size (pc := 90) C fl_RX3_22 dX3_readWord_90 (σ 6 0) (congrFun ((((su_nn (by decide)).trans (su_nn (by decide))).trans (su_nn (by decide)))) 0) ?_
        refine r_eqi (y := nI t) (hT) ?_
        refine r_icmp_ge (pc := 93) C 198 dX3_readWord_93 (by decide) (fun c_7 => ?_) (fun c_7 => ?_)
        · skip
          have c_7 := nIc_ge_t (a := pp) (b := t) (by omega) (by omega) c_7
          obtain rfl : t = pp := by omega
          have hA := hx.trans (en_stop (fun h_ => absurd h_ (Nat.lt_irrefl _)))
          have hb_ : bA (σ 5) t (tkF (σ 5) t i) = σ 5 (tkF (σ 5) t i) := bA_lt (by omega)
          have h0_ : 0 ≤ σ 5 (tkF (σ 5) t i) := by rw [Int32.le_iff_toInt_le]; exact (hb _ (by omega)).1
          have hK : tkK (σ 5) t i = 1 := by unfold tkK; rw [hb_, if_pos h0_]; simp [*]
          have hTT : tkT (σ 5) t i = t := by rw [tkT, if_pos hK]; exact hA
          exact r_vret (pc := 198) C hr hlk dX3_readWord_198 (by rw [hK, hTT] <;> rfl)
        · skip
          have c_7 := nIc_ge_f (a := pp) (b := t) (by omega) (by omega) c_7
          refine r_aload_n (pc := 96) C 0 dX3_readWord_96 rfl rfl ?_
          refine xg_t_text (pc := 97) C fl_RX3_18 dX3_readWord_97 ?_
          refine r_aload_n (pc := 100) C 0 dX3_readWord_100 rfl rfl ?_
          refine xg_t_next (pc := 101) C fl_RX3_26 dX3_readWord_101 (nI pp) (congrFun (su_at) 0) ?_
          refine xl_text (pc := 104) C pp (rfl) (by omega) dX3_readWord_104 ((σ 5 pp).toInt8.toInt32) (by rw [(((su_nn (by decide)).trans (su_nn (by decide))).trans (su_nn (by decide)))]) ?_
          refine rc_Si (pc := 105) C (t_X3_isLetter l ad D (tysW cs) (wX cs h (su (su (su σ 7 (fun _ => 1)) 8 (fun _ => nI (tkF (σ 5) t i))) 9 (fun _ => nI pp))) pre post  ((σ 5 pp).toInt8.toInt32) ) ms_X3_isLetter ml_RX3_123 rfl ⟨Nat.le_of_ble_eq_true rfl, Nat.le_of_ble_eq_true rfl⟩ ⟨rfl, rfl⟩ rfl rfl rfl (Nat.le_of_ble_eq_true rfl) dX3_readWord_105 ?_
          refine r_eqi (y := bI (alB (σ 5 pp) = true)) (by rw [b8_al (hb _ (by omega))]) ?_
          refine r_if_eq (pc := 108) C 198 dX3_readWord_108 (by decide) (fun c_8 => ?_) (fun c_8 => ?_)
          · skip
            have c_8 := bI_0.mp c_8
            have hA := hx.trans (en_stop (P := alP (σ 5)) (fun _ => Bool.not_eq_true _ ▸ c_8))
            have hb_ : bA (σ 5) t (tkF (σ 5) t i) = σ 5 (tkF (σ 5) t i) := bA_lt (by omega)
            have h0_ : 0 ≤ σ 5 (tkF (σ 5) t i) := by rw [Int32.le_iff_toInt_le]; exact (hb _ (by omega)).1
            have hK : tkK (σ 5) t i = 1 := by unfold tkK; rw [hb_, if_pos h0_]; simp [*]
            have hTT : tkT (σ 5) t i = pp := by rw [tkT, if_pos hK]; exact hA
            exact r_vret (pc := 198) C hr hlk dX3_readWord_198 (by rw [hK, hTT] <;> rfl)
          · skip
            have c_8 := bI_n.mp c_8
            have hs2 : alP (σ 5) pp = true := c_8
            refine r_aload_n (pc := 111) C 0 dX3_readWord_111 rfl rfl ?_
            refine r_dup (pc := 112) C dX3_readWord_112 rfl ?_
            refine xg_t_next (pc := 113) C fl_RX3_26 dX3_readWord_113 (nI pp) (congrFun (su_at) 0) ?_
            refine r_iconst (pc := 116) C 1 dX3_readWord_116 (by decide) ?_
            refine r_iadd (pc := 117) C dX3_readWord_117 ?_
            refine r_eqi (y := nI (pp + 1)) (nI_add pp 1) ?_
            refine xp_t_next (pc := 118) C fl_RX3_26 dX3_readWord_118 ?_
            refine r_blk (blk' := wX cs h (su (su (su σ 7 (fun _ => 1)) 8 (fun _ => nI (tkF (σ 5) t i))) 9 (fun _ => nI (pp + 1)))) (congrArg (wX cs h) (by rw [su_su])) ?_
            refine r_goto (pc := 121) C 85 dX3_readWord_121 (by decide) ?_
            refine r_pick (lv' := [(0, .ref (h 33))]) [0] rfl ?_
            exact ih_85 (by omega) (hx.trans (en_next (by omega) hs2))
    · skip
      have c_2 := nIc_lt_f (a := (tkF (σ 5) t i)) (b := t) (by omega) (by omega) c_2
      refine r_aload_n (pc := 57) C 0 dX3_readWord_57 rfl rfl ?_
      refine r_iconst (pc := 58) C 0 dX3_readWord_58 (by decide) ?_
      refine xp_t_word (pc := 59) C fl_RX3_35 dX3_readWord_59 ?_
      refine r_blk (blk' := wX cs h (su (su (su σ 7 (fun _ => 0)) 8 (fun _ => nI (tkF (σ 5) t i))) 9 (fun _ => nI (tkF (σ 5) t i)))) (congrArg (wX cs h) (by rw [su_cm (k := 9) (j := 7) (by decide), su_cm (k := 8) (j := 7) (by decide)])) ?_
      refine r_goto (pc := 62) C 198 dX3_readWord_62 (by decide) ?_
      have hK : tkK (σ 5) t i = 0 := by unfold tkK; rw [bA_ge (by omega)]; rfl
      have hTT : tkT (σ 5) t i = tkF (σ 5) t i := by rw [tkT, if_neg (by omega), if_neg (by omega), if_neg (by omega)]
      exact r_vret (pc := 198) C hr hlk dX3_readWord_198 (by rw [hK, hTT] <;> rfl)
  · skip
    have c_1 := nIc_ge_f (a := pp) (b := t) (by omega) (by omega) c_1
    refine r_aload_n (pc := 11) C 0 dX3_readWord_11 rfl rfl ?_
    refine xg_t_text (pc := 12) C fl_RX3_18 dX3_readWord_12 ?_
    refine r_aload_n (pc := 15) C 0 dX3_readWord_15 rfl rfl ?_
    refine xg_t_next (pc := 16) C fl_RX3_26 dX3_readWord_16 (nI pp) (congrFun (su_at) 0) ?_
    refine xl_text (pc := 19) C pp (rfl) (by omega) dX3_readWord_19 ((σ 5 pp).toInt8.toInt32) (by rw [(su_nn (by decide))]) ?_
    refine r_bipush (pc := 20) C 32 dX3_readWord_20 (by decide) ?_
    refine r_icmp_ne (pc := 22) C 38 dX3_readWord_22 (by decide) (fun c_9 => ?_) (fun c_9 => ?_)
    · skip
      have hF : tkF (σ 5) t i = pp := hx.trans (en_stop (fun h_ => decide_eq_false (fun q_ => c_9 ((b8_eq (c := 32) (hb pp h_) (by decide)).mpr q_))))
      refine r_blk (blk' := wX cs h (su σ 9 (fun _ => nI (tkF (σ 5) t i)))) (by rw [show (fun _ => nI (tkF (σ 5) t i) : Nat → Int32) = fun _ => nI pp from Eq.symm (by rw [hF])] <;> rfl) ?_
      have hf1 := tkF_le (T := σ 5) hi
      clear hF hx
      refine r_aload_n (pc := 38) C 0 dX3_readWord_38 rfl rfl ?_
      refine r_aload_n (pc := 39) C 0 dX3_readWord_39 rfl rfl ?_
      refine xg_t_next (pc := 40) C fl_RX3_26 dX3_readWord_40 (nI (tkF (σ 5) t i)) (congrFun (su_at) 0) ?_
      refine xp_t_wordStart (pc := 43) C fl_RX3_42 dX3_readWord_43 ?_
      refine r_blk (blk' := wX cs h (su (su σ 8 (fun _ => nI (tkF (σ 5) t i))) 9 (fun _ => nI (tkF (σ 5) t i)))) (congrArg (wX cs h) (by rw [su_cm (k := 9) (j := 8) (by decide)])) ?_
      refine r_aload_n (pc := 46) C 0 dX3_readWord_46 rfl rfl ?_
      refine xg_t_next (pc := 47) C fl_RX3_26 dX3_readWord_47 (nI (tkF (σ 5) t i)) (congrFun (su_at) 0) ?_
      refine r_aload_n (pc := 50) C 0 dX3_readWord_50 rfl rfl ?_
      refine xg_t_size (pc := 51) C fl_RX3_22 dX3_readWord_51 (σ 6 0) (congrFun (((su_nn (by decide)).trans (su_nn (by decide)))) 0) ?_
      refine r_eqi (y := nI t) (hT) ?_
      refine r_icmp_lt (pc := 54) C 65 dX3_readWord_54 (by decide) (fun c_10 => ?_) (fun c_10 => ?_)
      · skip
        have c_10 := nIc_lt_t (a := (tkF (σ 5) t i)) (b := t) (by omega) (by omega) c_10
        refine r_aload_n (pc := 65) C 0 dX3_readWord_65 rfl rfl ?_
        refine xg_t_text (pc := 66) C fl_RX3_18 dX3_readWord_66 ?_
        refine r_aload_n (pc := 69) C 0 dX3_readWord_69 rfl rfl ?_
        refine xg_t_next (pc := 70) C fl_RX3_26 dX3_readWord_70 (nI (tkF (σ 5) t i)) (congrFun (su_at) 0) ?_
        refine xl_text (pc := 73) C (tkF (σ 5) t i) (rfl) (by omega) dX3_readWord_73 ((σ 5 (tkF (σ 5) t i)).toInt8.toInt32) (by rw [((su_nn (by decide)).trans (su_nn (by decide)))]) ?_
        refine rc_Si (pc := 74) C (t_X3_isLetter l ad D (tysW cs) (wX cs h (su (su σ 8 (fun _ => nI (tkF (σ 5) t i))) 9 (fun _ => nI (tkF (σ 5) t i)))) pre post  ((σ 5 (tkF (σ 5) t i)).toInt8.toInt32) ) ms_X3_isLetter ml_RX3_123 rfl ⟨Nat.le_of_ble_eq_true rfl, Nat.le_of_ble_eq_true rfl⟩ ⟨rfl, rfl⟩ rfl rfl rfl (Nat.le_of_ble_eq_true rfl) dX3_readWord_74 ?_
        refine r_eqi (y := bI (alB (σ 5 (tkF (σ 5) t i)) = true)) (by rw [b8_al (hb _ (by omega))]) ?_
        refine r_if_eq (pc := 77) C 124 dX3_readWord_77 (by decide) (fun c_11 => ?_) (fun c_11 => ?_)
        · skip
          have c_11 := bI_0.mp c_11
          refine r_aload_n (pc := 124) C 0 dX3_readWord_124 rfl rfl ?_
          refine xg_t_text (pc := 125) C fl_RX3_18 dX3_readWord_125 ?_
          refine r_aload_n (pc := 128) C 0 dX3_readWord_128 rfl rfl ?_
          refine xg_t_next (pc := 129) C fl_RX3_26 dX3_readWord_129 (nI (tkF (σ 5) t i)) (congrFun (su_at) 0) ?_
          refine xl_text (pc := 132) C (tkF (σ 5) t i) (rfl) (by omega) dX3_readWord_132 ((σ 5 (tkF (σ 5) t i)).toInt8.toInt32) (by rw [((su_nn (by decide)).trans (su_nn (by decide)))]) ?_
          refine rc_Si (pc := 133) C (t_X3_isDigit l ad D (tysW cs) (wX cs h (su (su σ 8 (fun _ => nI (tkF (σ 5) t i))) 9 (fun _ => nI (tkF (σ 5) t i)))) pre post  ((σ 5 (tkF (σ 5) t i)).toInt8.toInt32) ) ms_X3_isDigit ml_RX3_127 rfl ⟨Nat.le_of_ble_eq_true rfl, Nat.le_of_ble_eq_true rfl⟩ ⟨rfl, rfl⟩ rfl rfl rfl (Nat.le_of_ble_eq_true rfl) dX3_readWord_133 ?_
          refine r_eqi (y := bI (dgB (σ 5 (tkF (σ 5) t i)) = true)) (by rw [b8_dg (hb _ (by omega))]) ?_
          refine r_if_eq (pc := 136) C 183 dX3_readWord_136 (by decide) (fun c_12 => ?_) (fun c_12 => ?_)
          · skip
            have c_12 := bI_0.mp c_12
            refine r_aload_n (pc := 183) C 0 dX3_readWord_183 rfl rfl ?_
            refine r_iconst (pc := 184) C 3 dX3_readWord_184 (by decide) ?_
            refine xp_t_word (pc := 185) C fl_RX3_35 dX3_readWord_185 ?_
            refine r_blk (blk' := wX cs h (su (su (su σ 7 (fun _ => 3)) 8 (fun _ => nI (tkF (σ 5) t i))) 9 (fun _ => nI (tkF (σ 5) t i)))) (congrArg (wX cs h) (by rw [su_cm (k := 9) (j := 7) (by decide), su_cm (k := 8) (j := 7) (by decide)])) ?_
            refine r_aload_n (pc := 188) C 0 dX3_readWord_188 rfl rfl ?_
            refine r_dup (pc := 189) C dX3_readWord_189 rfl ?_
            refine xg_t_next (pc := 190) C fl_RX3_26 dX3_readWord_190 (nI (tkF (σ 5) t i)) (congrFun (su_at) 0) ?_
            refine r_iconst (pc := 193) C 1 dX3_readWord_193 (by decide) ?_
            refine r_iadd (pc := 194) C dX3_readWord_194 ?_
            refine r_eqi (y := nI (tkF (σ 5) t i + 1)) (nI_add (tkF (σ 5) t i) 1) ?_
            refine xp_t_next (pc := 195) C fl_RX3_26 dX3_readWord_195 ?_
            refine r_blk (blk' := wX cs h (su (su (su σ 7 (fun _ => 3)) 8 (fun _ => nI (tkF (σ 5) t i))) 9 (fun _ => nI (tkF (σ 5) t i + 1)))) (congrArg (wX cs h) (by rw [su_su])) ?_
            have hb_ : bA (σ 5) t (tkF (σ 5) t i) = σ 5 (tkF (σ 5) t i) := bA_lt (by omega)
            have h0_ : 0 ≤ σ 5 (tkF (σ 5) t i) := by rw [Int32.le_iff_toInt_le]; exact (hb _ (by omega)).1
            have hK : tkK (σ 5) t i = 3 := by unfold tkK; rw [hb_, if_pos h0_]; simp [*]
            have hTT : tkT (σ 5) t i = tkF (σ 5) t i + 1 := by rw [tkT, if_neg (by omega), if_neg (by omega), if_pos hK]
            exact r_vret (pc := 198) C hr hlk dX3_readWord_198 (by rw [hK, hTT] <;> rfl)
          · skip
            have c_12 := bI_n.mp c_12
            refine r_aload_n (pc := 139) C 0 dX3_readWord_139 rfl rfl ?_
            refine r_iconst (pc := 140) C 2 dX3_readWord_140 (by decide) ?_
            refine xp_t_word (pc := 141) C fl_RX3_35 dX3_readWord_141 ?_
            refine r_blk (blk' := wX cs h (su (su (su σ 7 (fun _ => 2)) 8 (fun _ => nI (tkF (σ 5) t i))) 9 (fun _ => nI (tkF (σ 5) t i)))) (congrArg (wX cs h) (by rw [su_cm (k := 9) (j := 7) (by decide), su_cm (k := 8) (j := 7) (by decide)])) ?_
            refine r_pick (lv' := [(0, .ref (h 33))]) [0] rfl ?_
            refine r_loop (blkf := fun pp => wX cs h (su (su (su σ 7 (fun _ => 2)) 8 (fun _ => nI (tkF (σ 5) t i))) 9 (fun _ => nI pp))) (lvf := fun pp => [(0, .ref (h 33))]) (fun pp => endF (dgP (σ 5)) (t - tkF (σ 5) t i) (tkF (σ 5) t i) = endF (dgP (σ 5)) (t - pp) pp) t (tkF (σ 5) t i) (by omega) (rfl) (fun pp h_pp hx ih_144 => ?_)
            show VX p l e _ s m args below meth c _ D A 1 pre (wX cs h (su (su (su σ 7 (fun _ => 2)) 8 (fun _ => nI (tkF (σ 5) t i))) 9 (fun _ => nI pp))) post 144 [(0, .ref (h 33))] []
            refine r_aload_n (pc := 144) C 0 dX3_readWord_144 rfl rfl ?_
            refine xg_t_next (pc := 145) C fl_RX3_26 dX3_readWord_145 (nI pp) (congrFun (su_at) 0) ?_
            refine r_aload_n (pc := 148) C 0 dX3_readWord_148 rfl rfl ?_
            refine xg_t_size (pc := 149) C fl_RX3_22 dX3_readWord_149 (σ 6 0) (congrFun ((((su_nn (by decide)).trans (su_nn (by decide))).trans (su_nn (by decide)))) 0) ?_
            refine r_eqi (y := nI t) (hT) ?_
            refine r_icmp_ge (pc := 152) C 198 dX3_readWord_152 (by decide) (fun c_13 => ?_) (fun c_13 => ?_)
            · skip
              have c_13 := nIc_ge_t (a := pp) (b := t) (by omega) (by omega) c_13
              obtain rfl : t = pp := by omega
              have hA := hx.trans (en_stop (fun h_ => absurd h_ (Nat.lt_irrefl _)))
              have hb_ : bA (σ 5) t (tkF (σ 5) t i) = σ 5 (tkF (σ 5) t i) := bA_lt (by omega)
              have h0_ : 0 ≤ σ 5 (tkF (σ 5) t i) := by rw [Int32.le_iff_toInt_le]; exact (hb _ (by omega)).1
              have hK : tkK (σ 5) t i = 2 := by unfold tkK; rw [hb_, if_pos h0_]; simp [*]
              have hTT : tkT (σ 5) t i = t := by rw [tkT, if_neg (by omega), if_pos hK]; exact hA
              exact r_vret (pc := 198) C hr hlk dX3_readWord_198 (by rw [hK, hTT] <;> rfl)
            · skip
              have c_13 := nIc_ge_f (a := pp) (b := t) (by omega) (by omega) c_13
              refine r_aload_n (pc := 155) C 0 dX3_readWord_155 rfl rfl ?_
              refine xg_t_text (pc := 156) C fl_RX3_18 dX3_readWord_156 ?_
              refine r_aload_n (pc := 159) C 0 dX3_readWord_159 rfl rfl ?_
              refine xg_t_next (pc := 160) C fl_RX3_26 dX3_readWord_160 (nI pp) (congrFun (su_at) 0) ?_
              refine xl_text (pc := 163) C pp (rfl) (by omega) dX3_readWord_163 ((σ 5 pp).toInt8.toInt32) (by rw [(((su_nn (by decide)).trans (su_nn (by decide))).trans (su_nn (by decide)))]) ?_
              refine rc_Si (pc := 164) C (t_X3_isDigit l ad D (tysW cs) (wX cs h (su (su (su σ 7 (fun _ => 2)) 8 (fun _ => nI (tkF (σ 5) t i))) 9 (fun _ => nI pp))) pre post  ((σ 5 pp).toInt8.toInt32) ) ms_X3_isDigit ml_RX3_127 rfl ⟨Nat.le_of_ble_eq_true rfl, Nat.le_of_ble_eq_true rfl⟩ ⟨rfl, rfl⟩ rfl rfl rfl (Nat.le_of_ble_eq_true rfl) dX3_readWord_164 ?_
              refine r_eqi (y := bI (dgB (σ 5 pp) = true)) (by rw [b8_dg (hb _ (by omega))]) ?_
              refine r_if_eq (pc := 167) C 198 dX3_readWord_167 (by decide) (fun c_14 => ?_) (fun c_14 => ?_)
              · skip
                have c_14 := bI_0.mp c_14
                have hA := hx.trans (en_stop (P := dgP (σ 5)) (fun _ => Bool.not_eq_true _ ▸ c_14))
                have hb_ : bA (σ 5) t (tkF (σ 5) t i) = σ 5 (tkF (σ 5) t i) := bA_lt (by omega)
                have h0_ : 0 ≤ σ 5 (tkF (σ 5) t i) := by rw [Int32.le_iff_toInt_le]; exact (hb _ (by omega)).1
                have hK : tkK (σ 5) t i = 2 := by unfold tkK; rw [hb_, if_pos h0_]; simp [*]
                have hTT : tkT (σ 5) t i = pp := by rw [tkT, if_neg (by omega), if_pos hK]; exact hA
                exact r_vret (pc := 198) C hr hlk dX3_readWord_198 (by rw [hK, hTT] <;> rfl)
              · skip
                have c_14 := bI_n.mp c_14
                have hs2 : dgP (σ 5) pp = true := c_14
                refine r_aload_n (pc := 170) C 0 dX3_readWord_170 rfl rfl ?_
                refine r_dup (pc := 171) C dX3_readWord_171 rfl ?_
                refine xg_t_next (pc := 172) C fl_RX3_26 dX3_readWord_172 (nI pp) (congrFun (su_at) 0) ?_
                refine r_iconst (pc := 175) C 1 dX3_readWord_175 (by decide) ?_
                refine r_iadd (pc := 176) C dX3_readWord_176 ?_
                refine r_eqi (y := nI (pp + 1)) (nI_add pp 1) ?_
                refine xp_t_next (pc := 177) C fl_RX3_26 dX3_readWord_177 ?_
                refine r_blk (blk' := wX cs h (su (su (su σ 7 (fun _ => 2)) 8 (fun _ => nI (tkF (σ 5) t i))) 9 (fun _ => nI (pp + 1)))) (congrArg (wX cs h) (by rw [su_su])) ?_
                refine r_goto (pc := 180) C 144 dX3_readWord_180 (by decide) ?_
                refine r_pick (lv' := [(0, .ref (h 33))]) [0] rfl ?_
                exact ih_144 (by omega) (hx.trans (en_next (by omega) hs2))
        · skip
          have c_11 := bI_n.mp c_11
          refine r_aload_n (pc := 80) C 0 dX3_readWord_80 rfl rfl ?_
          refine r_iconst (pc := 81) C 1 dX3_readWord_81 (by decide) ?_
          refine xp_t_word (pc := 82) C fl_RX3_35 dX3_readWord_82 ?_
          refine r_blk (blk' := wX cs h (su (su (su σ 7 (fun _ => 1)) 8 (fun _ => nI (tkF (σ 5) t i))) 9 (fun _ => nI (tkF (σ 5) t i)))) (congrArg (wX cs h) (by rw [su_cm (k := 9) (j := 7) (by decide), su_cm (k := 8) (j := 7) (by decide)])) ?_
          refine r_pick (lv' := [(0, .ref (h 33))]) [0] rfl ?_
          refine r_loop (blkf := fun pp => wX cs h (su (su (su σ 7 (fun _ => 1)) 8 (fun _ => nI (tkF (σ 5) t i))) 9 (fun _ => nI pp))) (lvf := fun pp => [(0, .ref (h 33))]) (fun pp => endF (alP (σ 5)) (t - tkF (σ 5) t i) (tkF (σ 5) t i) = endF (alP (σ 5)) (t - pp) pp) t (tkF (σ 5) t i) (by omega) (rfl) (fun pp h_pp hx ih_85 => ?_)
          show VX p l e _ s m args below meth c _ D A 1 pre (wX cs h (su (su (su σ 7 (fun _ => 1)) 8 (fun _ => nI (tkF (σ 5) t i))) 9 (fun _ => nI pp))) post 85 [(0, .ref (h 33))] []
          refine r_aload_n (pc := 85) C 0 dX3_readWord_85 rfl rfl ?_
          refine xg_t_next (pc := 86) C fl_RX3_26 dX3_readWord_86 (nI pp) (congrFun (su_at) 0) ?_
          refine r_aload_n (pc := 89) C 0 dX3_readWord_89 rfl rfl ?_
          refine xg_t_size (pc := 90) C fl_RX3_22 dX3_readWord_90 (σ 6 0) (congrFun ((((su_nn (by decide)).trans (su_nn (by decide))).trans (su_nn (by decide)))) 0) ?_
          refine r_eqi (y := nI t) (hT) ?_
          refine r_icmp_ge (pc := 93) C 198 dX3_readWord_93 (by decide) (fun c_15 => ?_) (fun c_15 => ?_)
          · skip
            have c_15 := nIc_ge_t (a := pp) (b := t) (by omega) (by omega) c_15
            obtain rfl : t = pp := by omega
            have hA := hx.trans (en_stop (fun h_ => absurd h_ (Nat.lt_irrefl _)))
            have hb_ : bA (σ 5) t (tkF (σ 5) t i) = σ 5 (tkF (σ 5) t i) := bA_lt (by omega)
            have h0_ : 0 ≤ σ 5 (tkF (σ 5) t i) := by rw [Int32.le_iff_toInt_le]; exact (hb _ (by omega)).1
            have hK : tkK (σ 5) t i = 1 := by unfold tkK; rw [hb_, if_pos h0_]; simp [*]
            have hTT : tkT (σ 5) t i = t := by rw [tkT, if_pos hK]; exact hA
            exact r_vret (pc := 198) C hr hlk dX3_readWord_198 (by rw [hK, hTT] <;> rfl)
          · skip
            have c_15 := nIc_ge_f (a := pp) (b := t) (by omega) (by omega) c_15
            refine r_aload_n (pc := 96) C 0 dX3_readWord_96 rfl rfl ?_
            refine xg_t_text (pc := 97) C fl_RX3_18 dX3_readWord_97 ?_
            refine r_aload_n (pc := 100) C 0 dX3_readWord_100 rfl rfl ?_
            refine xg_t_next (pc := 101) C fl_RX3_26 dX3_readWord_101 (nI pp) (congrFun (su_at) 0) ?_
            refine xl_text (pc := 104) C pp (rfl) (by omega) dX3_readWord_104 ((σ 5 pp).toInt8.toInt32) (by rw [(((su_nn (by decide)).trans (su_nn (by decide))).trans (su_nn (by decide)))]) ?_
            refine rc_Si (pc := 105) C (t_X3_isLetter l ad D (tysW cs) (wX cs h (su (su (su σ 7 (fun _ => 1)) 8 (fun _ => nI (tkF (σ 5) t i))) 9 (fun _ => nI pp))) pre post  ((σ 5 pp).toInt8.toInt32) ) ms_X3_isLetter ml_RX3_123 rfl ⟨Nat.le_of_ble_eq_true rfl, Nat.le_of_ble_eq_true rfl⟩ ⟨rfl, rfl⟩ rfl rfl rfl (Nat.le_of_ble_eq_true rfl) dX3_readWord_105 ?_
            refine r_eqi (y := bI (alB (σ 5 pp) = true)) (by rw [b8_al (hb _ (by omega))]) ?_
            refine r_if_eq (pc := 108) C 198 dX3_readWord_108 (by decide) (fun c_16 => ?_) (fun c_16 => ?_)
            · skip
              have c_16 := bI_0.mp c_16
              have hA := hx.trans (en_stop (P := alP (σ 5)) (fun _ => Bool.not_eq_true _ ▸ c_16))
              have hb_ : bA (σ 5) t (tkF (σ 5) t i) = σ 5 (tkF (σ 5) t i) := bA_lt (by omega)
              have h0_ : 0 ≤ σ 5 (tkF (σ 5) t i) := by rw [Int32.le_iff_toInt_le]; exact (hb _ (by omega)).1
              have hK : tkK (σ 5) t i = 1 := by unfold tkK; rw [hb_, if_pos h0_]; simp [*]
              have hTT : tkT (σ 5) t i = pp := by rw [tkT, if_pos hK]; exact hA
              exact r_vret (pc := 198) C hr hlk dX3_readWord_198 (by rw [hK, hTT] <;> rfl)
            · skip
              have c_16 := bI_n.mp c_16
              have hs2 : alP (σ 5) pp = true := c_16
              refine r_aload_n (pc := 111) C 0 dX3_readWord_111 rfl rfl ?_
              refine r_dup (pc := 112) C dX3_readWord_112 rfl ?_
              refine xg_t_next (pc := 113) C fl_RX3_26 dX3_readWord_113 (nI pp) (congrFun (su_at) 0) ?_
              refine r_iconst (pc := 116) C 1 dX3_readWord_116 (by decide) ?_
              refine r_iadd (pc := 117) C dX3_readWord_117 ?_
              refine r_eqi (y := nI (pp + 1)) (nI_add pp 1) ?_
              refine xp_t_next (pc := 118) C fl_RX3_26 dX3_readWord_118 ?_
              refine r_blk (blk' := wX cs h (su (su (su σ 7 (fun _ => 1)) 8 (fun _ => nI (tkF (σ 5) t i))) 9 (fun _ => nI (pp + 1)))) (congrArg (wX cs h) (by rw [su_su])) ?_
              refine r_goto (pc := 121) C 85 dX3_readWord_121 (by decide) ?_
              refine r_pick (lv' := [(0, .ref (h 33))]) [0] rfl ?_
              exact ih_85 (by omega) (hx.trans (en_next (by omega) hs2))
      · skip
        have c_10 := nIc_lt_f (a := (tkF (σ 5) t i)) (b := t) (by omega) (by omega) c_10
        refine r_aload_n (pc := 57) C 0 dX3_readWord_57 rfl rfl ?_
        refine r_iconst (pc := 58) C 0 dX3_readWord_58 (by decide) ?_
        refine xp_t_word (pc := 59) C fl_RX3_35 dX3_readWord_59 ?_
        refine r_blk (blk' := wX cs h (su (su (su σ 7 (fun _ => 0)) 8 (fun _ => nI (tkF (σ 5) t i))) 9 (fun _ => nI (tkF (σ 5) t i)))) (congrArg (wX cs h) (by rw [su_cm (k := 9) (j := 7) (by decide), su_cm (k := 8) (j := 7) (by decide)])) ?_
        refine r_goto (pc := 62) C 198 dX3_readWord_62 (by decide) ?_
        have hK : tkK (σ 5) t i = 0 := by unfold tkK; rw [bA_ge (by omega)]; rfl
        have hTT : tkT (σ 5) t i = tkF (σ 5) t i := by rw [tkT, if_neg (by omega), if_neg (by omega), if_neg (by omega)]
        exact r_vret (pc := 198) C hr hlk dX3_readWord_198 (by rw [hK, hTT] <;> rfl)
    · skip
      have hs2 : spP (σ 5) pp = true := decide_eq_true ((b8_eq (c := 32) (hb pp (by omega)) (by decide)).mp c_9)
      refine r_aload_n (pc := 25) C 0 dX3_readWord_25 rfl rfl ?_
      refine r_dup (pc := 26) C dX3_readWord_26 rfl ?_
      refine xg_t_next (pc := 27) C fl_RX3_26 dX3_readWord_27 (nI pp) (congrFun (su_at) 0) ?_
      refine r_iconst (pc := 30) C 1 dX3_readWord_30 (by decide) ?_
      refine r_iadd (pc := 31) C dX3_readWord_31 ?_
      refine r_eqi (y := nI (pp + 1)) (nI_add pp 1) ?_
      refine xp_t_next (pc := 32) C fl_RX3_26 dX3_readWord_32 ?_
      refine r_blk (blk' := wX cs h (su σ 9 (fun _ => nI (pp + 1)))) (congrArg (wX cs h) (by rw [su_su])) ?_
      refine r_goto (pc := 35) C 0 dX3_readWord_35 (by decide) ?_
      refine r_pick (lv' := [(0, .ref (h 33))]) [0] rfl ?_
      exact ih_0 (by omega) (hx.trans (en_next (by omega) hs2))
theorem t_X3_readWord' (l : Launch) (ad : Nat → Nat) (D : va_G) (cs : Nat → ClassId) (h : Nat → Nat) (σ : Nat → Nat → Int32) (pre post : va_W) (f5_ : Nat → Int32) (e5_ : σ 5 = f5_) (f6_ : Nat → Int32) (e6_ : σ 6 = f6_) (f9_ : Nat → Int32) (e9_ : σ 9 = f9_) (t i : Nat) (hT : f6_ 0 = nI t) (ht : t ≤ 200) (hb : ∀ j : Nat, j < t → 0 ≤ (f5_ j).toInt ∧ (f5_ j).toInt ≤ 255) (h9 : f9_ 0 = nI i) (hi : i ≤ t) : CTv l yX3_readWord cX3_readWord 1 ({ frames := 1, cells := 0, slots := 0, locals := 20 }) ad D (tysW cs) (pre ++ (wX cs h σ ++ post)) [.ref (h 33)] (pre ++ (wX cs h (su (su (su σ 7 (fun _ => nI (tkK (f5_) t i))) 8 (fun _ => nI (tkF (f5_) t i))) 9 (fun _ => nI (tkT (f5_) t i))) ++ post)) := by
  subst e5_; subst e6_; subst e9_
  exact t_X3_readWord l ad D cs h σ pre post t i hT ht hb h9 hi
theorem dX3_isName_0 : decode cX3_isName 0 = .ok (.aload_n 0, 1) := by decide +kernel
theorem dX3_isName_1 : decode cX3_isName 1 = .ok (.getfield 35, 3) := by decide +kernel
theorem dX3_isName_4 : decode cX3_isName 4 = .ok (.iconst 1, 1) := by decide +kernel
theorem dX3_isName_5 : decode cX3_isName 5 = .ok (.if_icmp .ne 19, 3) := by decide +kernel
theorem dX3_isName_8 : decode cX3_isName 8 = .ok (.aload_n 0, 1) := by decide +kernel
theorem dX3_isName_9 : decode cX3_isName 9 = .ok (.getfield 26, 3) := by decide +kernel
theorem dX3_isName_12 : decode cX3_isName 12 = .ok (.aload_n 0, 1) := by decide +kernel
theorem dX3_isName_13 : decode cX3_isName 13 = .ok (.getfield 42, 3) := by decide +kernel
theorem dX3_isName_16 : decode cX3_isName 16 = .ok (.isub, 1) := by decide +kernel
theorem dX3_isName_17 : decode cX3_isName 17 = .ok (.aload_n 1, 1) := by decide +kernel
theorem dX3_isName_18 : decode cX3_isName 18 = .ok (.invokevirtual 130, 3) := by decide +kernel
theorem dX3_isName_21 : decode cX3_isName 21 = .ok (.if_icmp .eq 5, 3) := by decide +kernel
theorem dX3_isName_24 : decode cX3_isName 24 = .ok (.iconst 0, 1) := by decide +kernel
theorem dX3_isName_25 : decode cX3_isName 25 = .ok (.ireturn, 1) := by decide +kernel
theorem dX3_isName_26 : decode cX3_isName 26 = .ok (.iconst 0, 1) := by decide +kernel
theorem dX3_isName_27 : decode cX3_isName 27 = .ok (.istore_n 2, 1) := by decide +kernel
theorem dX3_isName_28 : decode cX3_isName 28 = .ok (.iload_n 2, 1) := by decide +kernel
theorem dX3_isName_29 : decode cX3_isName 29 = .ok (.aload_n 1, 1) := by decide +kernel
theorem dX3_isName_30 : decode cX3_isName 30 = .ok (.invokevirtual 130, 3) := by decide +kernel
theorem dX3_isName_33 : decode cX3_isName 33 = .ok (.if_icmp .ge 30, 3) := by decide +kernel
theorem dX3_isName_36 : decode cX3_isName 36 = .ok (.aload_n 0, 1) := by decide +kernel
theorem dX3_isName_37 : decode cX3_isName 37 = .ok (.getfield 18, 3) := by decide +kernel
theorem dX3_isName_40 : decode cX3_isName 40 = .ok (.aload_n 0, 1) := by decide +kernel
theorem dX3_isName_41 : decode cX3_isName 41 = .ok (.getfield 42, 3) := by decide +kernel
theorem dX3_isName_44 : decode cX3_isName 44 = .ok (.iload_n 2, 1) := by decide +kernel
theorem dX3_isName_45 : decode cX3_isName 45 = .ok (.iadd, 1) := by decide +kernel
theorem dX3_isName_46 : decode cX3_isName 46 = .ok (.baload, 1) := by decide +kernel
theorem dX3_isName_47 : decode cX3_isName 47 = .ok (.aload_n 1, 1) := by decide +kernel
theorem dX3_isName_48 : decode cX3_isName 48 = .ok (.iload_n 2, 1) := by decide +kernel
theorem dX3_isName_49 : decode cX3_isName 49 = .ok (.invokevirtual 135, 3) := by decide +kernel
theorem dX3_isName_52 : decode cX3_isName 52 = .ok (.if_icmp .eq 5, 3) := by decide +kernel
theorem dX3_isName_55 : decode cX3_isName 55 = .ok (.iconst 0, 1) := by decide +kernel
theorem dX3_isName_56 : decode cX3_isName 56 = .ok (.ireturn, 1) := by decide +kernel
theorem dX3_isName_57 : decode cX3_isName 57 = .ok (.iinc 2 1, 3) := by decide +kernel
theorem dX3_isName_60 : decode cX3_isName 60 = .ok (.goto (-32), 3) := by decide +kernel
theorem dX3_isName_63 : decode cX3_isName 63 = .ok (.iconst 1, 1) := by decide +kernel
theorem dX3_isName_64 : decode cX3_isName 64 = .ok (.ireturn, 1) := by decide +kernel
set_option maxHeartbeats 400000 in
set_option maxRecDepth 20000 in
theorem t_X3_isName (l : Launch) (ad : Nat → Nat) (D : va_G) (cs : Nat → ClassId) (h : Nat → Nat) (σ : Nat → Nat → Int32) (pre post : va_W) (t i : Nat) (q : Nat) (hT : σ 6 0 = nI t) (ht : t ≤ 200) (hb : ∀ j : Nat, j < t → 0 ≤ (σ 5 j).toInt ∧ (σ 5 j).toInt ≤ 255) (hi : i ≤ t) (h7 : σ 7 0 = nI (tkK (σ 5) t i)) (h8 : σ 8 0 = nI (tkF (σ 5) t i)) (h9 : σ 9 0 = nI (tkT (σ 5) t i)) (hq : q < 14) : CTi l yX3_isName cX3_isName 3 .boolean ({ frames := 5, cells := 0, slots := 0, locals := 106 }) ad D (tysW cs) (pre ++ (wX cs h σ ++ post)) [.ref (h 33), .ref (ad (10 + q))] (bI (nameB (σ 5) t i q = true)) (pre ++ (wX cs h σ ++ post)) := by
  refine CTi.of (lv0 := [(0, .ref (h 33)), (1, .ref (ad (10 + q)))]) (by decide) rfl (Nat.le_of_ble_eq_true rfl) (fun p e s m args below meth c A C hr hlk => ?_)
  have C : Cx p s m args c cX3_isName 3 RX3 ad D (tysW cs) A := C
  have hk_ := tkK_le (σ 5) t i
  have hf_ := tkF_le (T := σ 5) hi
  have ht_ := tkT_le (T := σ 5) hi
  have hL := js_l q hq
  refine r_aload_n (pc := 0) C 0 dX3_isName_0 rfl rfl ?_
  refine xg_t_word (pc := 1) C fl_RX3_35 dX3_isName_1 (σ 7 0) rfl ?_
  refine r_eqi (y := nI (tkK (σ 5) t i)) (h7) ?_
  refine r_iconst (pc := 4) C 1 dX3_isName_4 (by decide) ?_
  refine r_icmp_ne (pc := 5) C 24 dX3_isName_5 (by decide) (fun c_1 => ?_) (fun c_1 => ?_)
  · skip
    have c_1 := nIc_ne_t (a := (tkK (σ 5) t i)) (b := 1) (by omega) (by omega) c_1
    have hn_ := na_1 (T := σ 5) (t := t) (i := i) (q := q) c_1
    refine r_iconst (pc := 24) C 0 dX3_isName_24 (by decide) ?_
    exact r_iret (pc := 25) C hr hlk dX3_isName_25 rfl (bI_f (by rw [hn_]; decide)) rfl
  · skip
    have c_1 := nIc_ne_f (a := (tkK (σ 5) t i)) (b := 1) (by omega) (by omega) c_1
    have hc1 : tkK (σ 5) t i = 1 := c_1
    have htk_ := tk_k1 hc1
    refine r_aload_n (pc := 8) C 0 dX3_isName_8 rfl rfl ?_
    refine xg_t_next (pc := 9) C fl_RX3_26 dX3_isName_9 (σ 9 0) rfl ?_
    refine r_eqi (y := nI (tkT (σ 5) t i)) (h9) ?_
    refine r_aload_n (pc := 12) C 0 dX3_isName_12 rfl rfl ?_
    refine xg_t_wordStart (pc := 13) C fl_RX3_42 dX3_isName_13 (σ 8 0) rfl ?_
    refine r_eqi (y := nI (tkF (σ 5) t i)) (h8) ?_
    refine r_isub (pc := 16) C dX3_isName_16 ?_
    refine r_eqi (y := nI (tkT (σ 5) t i - tkF (σ 5) t i)) (pk_sub (by omega)) ?_
    refine r_aload_n (pc := 17) C 1 dX3_isName_17 rfl rfl ?_
    refine rc_Zi (pc := 18) C (t_J0_length_8abf5 l ad D (tysW cs) (wX cs h σ) pre post  q hq) mv_J0_length_8abf5 ml_RX3_130 rfl ⟨Nat.le_of_ble_eq_true rfl, Nat.le_of_ble_eq_true rfl⟩ ⟨rfl, rfl⟩ (by omega) rfl rfl rfl rfl (Nat.le_of_ble_eq_true rfl) dX3_isName_18 ?_
    refine r_icmp_eq (pc := 21) C 26 dX3_isName_21 (by decide) (fun c_2 => ?_) (fun c_2 => ?_)
    · skip
      have c_2 := nIc_eq_t (a := (tkT (σ 5) t i - tkF (σ 5) t i)) (b := (jsL.getD q 0)) (by omega) (by omega) c_2
      have hc2 : tkT (σ 5) t i - tkF (σ 5) t i = jsL.getD q 0 := c_2
      refine r_iconst (pc := 26) C 0 dX3_isName_26 (by decide) ?_
      refine r_istore_n (pc := 27) C [(2, .int 0), (0, .ref (h 33)), (1, .ref (ad (10 + q)))] dX3_isName_27 rfl (by decide) rfl ?_
      refine r_pick (lv' := [(0, .ref (h 33)), (1, .ref (ad (10 + q))), (2, .int 0)]) [1, 2, 0] rfl ?_
      refine r_loop (blkf := fun k => wX cs h σ) (lvf := fun k => [(0, .ref (h 33)), (1, .ref (ad (10 + q))), (2, .int (nI k))]) (fun k => tdB (fun k_ => decide (σ 5 (tkF (σ 5) t i + k_) = nI (jsC q k_))) 0 (jsL.getD q 0) = tdB (fun k_ => decide (σ 5 (tkF (σ 5) t i + k_) = nI (jsC q k_))) k (jsL.getD q 0 - k)) (jsL.getD q 0) 0 (by omega) (rfl) (fun k h_k hx ih_28 => ?_)
      show VX p l e _ s m args below meth c _ D A 3 pre (wX cs h σ) post 28 [(0, .ref (h 33)), (1, .ref (ad (10 + q))), (2, .int (nI k))] []
      refine r_iload_n (pc := 28) C 2 dX3_isName_28 rfl rfl ?_
      refine r_aload_n (pc := 29) C 1 dX3_isName_29 rfl rfl ?_
      refine rc_Zi (pc := 30) C (t_J0_length_8abf5 l ad D (tysW cs) (wX cs h σ) pre post  q hq) mv_J0_length_8abf5 ml_RX3_130 rfl ⟨Nat.le_of_ble_eq_true rfl, Nat.le_of_ble_eq_true rfl⟩ ⟨rfl, rfl⟩ (by omega) rfl rfl rfl rfl (Nat.le_of_ble_eq_true rfl) dX3_isName_30 ?_
      refine r_icmp_ge (pc := 33) C 63 dX3_isName_33 (by decide) (fun c_3 => ?_) (fun c_3 => ?_)
      · skip
        have c_3 := nIc_ge_t (a := k) (b := (jsL.getD q 0)) (by omega) (by omega) c_3
        obtain rfl : k = jsL.getD q 0 := by omega
        refine r_iconst (pc := 63) C 1 dX3_isName_63 (by decide) ?_
        exact r_iret (pc := 64) C hr hlk dX3_isName_64 rfl (bI_t (na_3 hc1 hc2 (by rw [hx]; exact td_end))) rfl
      · skip
        have c_3 := nIc_ge_f (a := k) (b := (jsL.getD q 0)) (by omega) (by omega) c_3
        refine r_aload_n (pc := 36) C 0 dX3_isName_36 rfl rfl ?_
        refine xg_t_text (pc := 37) C fl_RX3_18 dX3_isName_37 ?_
        refine r_aload_n (pc := 40) C 0 dX3_isName_40 rfl rfl ?_
        refine xg_t_wordStart (pc := 41) C fl_RX3_42 dX3_isName_41 (σ 8 0) rfl ?_
        refine r_eqi (y := nI (tkF (σ 5) t i)) (h8) ?_
        refine r_iload_n (pc := 44) C 2 dX3_isName_44 rfl rfl ?_
        refine r_iadd (pc := 45) C dX3_isName_45 ?_
        refine r_eqi (y := nI (tkF (σ 5) t i + k)) (nI_add (tkF (σ 5) t i) k) ?_
        refine xl_text (pc := 46) C (tkF (σ 5) t i + k) (rfl) (by omega) dX3_isName_46 ((σ 5 (tkF (σ 5) t i + k)).toInt8.toInt32) rfl ?_
        refine r_aload_n (pc := 47) C 1 dX3_isName_47 rfl rfl ?_
        refine r_iload_n (pc := 48) C 2 dX3_isName_48 rfl rfl ?_
        refine rc_Zi (pc := 49) C (t_J0_charAt_5068e l ad D (tysW cs) (wX cs h σ) pre post  q k hq (by omega)) mv_J0_charAt_5068e ml_RX3_135 rfl ⟨Nat.le_of_ble_eq_true rfl, Nat.le_of_ble_eq_true rfl⟩ ⟨rfl, rfl⟩ (by omega) rfl rfl rfl rfl (Nat.le_of_ble_eq_true rfl) dX3_isName_49 ?_
        refine r_icmp_eq (pc := 52) C 57 dX3_isName_52 (by decide) (fun c_4 => ?_) (fun c_4 => ?_)
        · skip
          have hk1 : σ 5 (tkF (σ 5) t i + k) = nI (jsC q k) := (b8_eq (hb _ (by omega)) (js_c q hq k (by omega)).2).mp c_4
          refine r_iinc (pc := 57) C (nI (k + 1)) 2 [(2, .int (nI (k + 1))), (0, .ref (h 33)), (1, .ref (ad (10 + q)))] dX3_isName_57 rfl (nI_1 _) (by decide) rfl ?_
          refine r_goto (pc := 60) C 28 dX3_isName_60 (by decide) ?_
          refine r_pick (lv' := [(0, .ref (h 33)), (1, .ref (ad (10 + q))), (2, .int (nI (k + 1)))]) [1, 2, 0] rfl ?_
          exact ih_28 (by omega) (hx.trans (td_next (by omega) (decide_eq_true hk1)))
        · skip
          have hk0 := fun q_ => c_4 ((b8_eq (hb _ (by omega)) (js_c q hq k (by omega)).2).mpr q_)
          refine r_iconst (pc := 55) C 0 dX3_isName_55 (by decide) ?_
          exact r_iret (pc := 56) C hr hlk dX3_isName_56 rfl (bI_f (by rw [na_3 (b := false) hc1 hc2 (by rw [hx]; exact td_hit (by omega) (decide_eq_false hk0))]; decide)) rfl
    · skip
      have c_2 := nIc_eq_f (a := (tkT (σ 5) t i - tkF (σ 5) t i)) (b := (jsL.getD q 0)) (by omega) (by omega) c_2
      have hn_ := na_2 (T := σ 5) (t := t) (i := i) (q := q) c_2
      refine r_iconst (pc := 24) C 0 dX3_isName_24 (by decide) ?_
      exact r_iret (pc := 25) C hr hlk dX3_isName_25 rfl (bI_f (by rw [hn_]; decide)) rfl
theorem t_X3_isName' (l : Launch) (ad : Nat → Nat) (D : va_G) (cs : Nat → ClassId) (h : Nat → Nat) (σ : Nat → Nat → Int32) (pre post : va_W) (f5_ : Nat → Int32) (e5_ : σ 5 = f5_) (f6_ : Nat → Int32) (e6_ : σ 6 = f6_) (f7_ : Nat → Int32) (e7_ : σ 7 = f7_) (f8_ : Nat → Int32) (e8_ : σ 8 = f8_) (f9_ : Nat → Int32) (e9_ : σ 9 = f9_) (t i : Nat) (q : Nat) (hT : f6_ 0 = nI t) (ht : t ≤ 200) (hb : ∀ j : Nat, j < t → 0 ≤ (f5_ j).toInt ∧ (f5_ j).toInt ≤ 255) (hi : i ≤ t) (h7 : f7_ 0 = nI (tkK (f5_) t i)) (h8 : f8_ 0 = nI (tkF (f5_) t i)) (h9 : f9_ 0 = nI (tkT (f5_) t i)) (hq : q < 14) : CTi l yX3_isName cX3_isName 3 .boolean ({ frames := 5, cells := 0, slots := 0, locals := 106 }) ad D (tysW cs) (pre ++ (wX cs h σ ++ post)) [.ref (h 33), .ref (ad (10 + q))] (bI (nameB (f5_) t i q = true)) (pre ++ (wX cs h σ ++ post)) := by
  subst e5_; subst e6_; subst e7_; subst e8_; subst e9_
  exact t_X3_isName l ad D cs h σ pre post t i q hT ht hb hi h7 h8 h9 hq
theorem dX3_isByte_0 : decode cX3_isByte 0 = .ok (.aload_n 0, 1) := by decide +kernel
theorem dX3_isByte_1 : decode cX3_isByte 1 = .ok (.getfield 35, 3) := by decide +kernel
theorem dX3_isByte_4 : decode cX3_isByte 4 = .ok (.iconst 3, 1) := by decide +kernel
theorem dX3_isByte_5 : decode cX3_isByte 5 = .ok (.if_icmp .ne 20, 3) := by decide +kernel
theorem dX3_isByte_8 : decode cX3_isByte 8 = .ok (.aload_n 0, 1) := by decide +kernel
theorem dX3_isByte_9 : decode cX3_isByte 9 = .ok (.getfield 18, 3) := by decide +kernel
theorem dX3_isByte_12 : decode cX3_isByte 12 = .ok (.aload_n 0, 1) := by decide +kernel
theorem dX3_isByte_13 : decode cX3_isByte 13 = .ok (.getfield 42, 3) := by decide +kernel
theorem dX3_isByte_16 : decode cX3_isByte 16 = .ok (.baload, 1) := by decide +kernel
theorem dX3_isByte_17 : decode cX3_isByte 17 = .ok (.iload_n 1, 1) := by decide +kernel
theorem dX3_isByte_18 : decode cX3_isByte 18 = .ok (.if_icmp .ne 7, 3) := by decide +kernel
theorem dX3_isByte_21 : decode cX3_isByte 21 = .ok (.iconst 1, 1) := by decide +kernel
theorem dX3_isByte_22 : decode cX3_isByte 22 = .ok (.goto 4, 3) := by decide +kernel
theorem dX3_isByte_25 : decode cX3_isByte 25 = .ok (.iconst 0, 1) := by decide +kernel
theorem dX3_isByte_26 : decode cX3_isByte 26 = .ok (.ireturn, 1) := by decide +kernel
set_option maxHeartbeats 400000 in
set_option maxRecDepth 20000 in
theorem t_X3_isByte (l : Launch) (ad : Nat → Nat) (D : va_G) (cs : Nat → ClassId) (h : Nat → Nat) (σ : Nat → Nat → Int32) (pre post : va_W) (t i : Nat) (hT : σ 6 0 = nI t) (ht : t ≤ 200) (hb : ∀ j : Nat, j < t → 0 ≤ (σ 5 j).toInt ∧ (σ 5 j).toInt ≤ 255) (hi : i ≤ t) (h7 : σ 7 0 = nI (tkK (σ 5) t i)) (h8 : σ 8 0 = nI (tkF (σ 5) t i)) (h9 : σ 9 0 = nI (tkT (σ 5) t i)) : CTi l yX3_isByte cX3_isByte 2 .boolean ({ frames := 0, cells := 0, slots := 0, locals := 0 }) ad D (tysW cs) (pre ++ (wX cs h σ ++ post)) [.ref (h 33), .int 59] (bI (seB (σ 5) t i = true)) (pre ++ (wX cs h σ ++ post)) := by
  refine CTi.of (lv0 := [(0, .ref (h 33)), (1, .int 59)]) (by decide) rfl (Nat.le_of_ble_eq_true rfl) (fun p e s m args below meth c A C hr hlk => ?_)
  have C : Cx p s m args c cX3_isByte 2 RX3 ad D (tysW cs) A := C
  have hk_ := tkK_le (σ 5) t i
  have hf_ := tkF_le (T := σ 5) hi
  have ht_ := tkT_le (T := σ 5) hi
  refine r_aload_n (pc := 0) C 0 dX3_isByte_0 rfl rfl ?_
  refine xg_t_word (pc := 1) C fl_RX3_35 dX3_isByte_1 (σ 7 0) rfl ?_
  refine r_eqi (y := nI (tkK (σ 5) t i)) (h7) ?_
  refine r_iconst (pc := 4) C 3 dX3_isByte_4 (by decide) ?_
  refine r_icmp_ne (pc := 5) C 25 dX3_isByte_5 (by decide) (fun c_1 => ?_) (fun c_1 => ?_)
  · skip
    have c_1 := nIc_ne_t (a := (tkK (σ 5) t i)) (b := 3) (by omega) (by omega) c_1
    refine r_iconst (pc := 25) C 0 dX3_isByte_25 (by decide) ?_
    exact r_iret (pc := 26) C hr hlk dX3_isByte_26 rfl (bI_f (by rw [se_1 ‹_›]; decide)) rfl
  · skip
    have c_1 := nIc_ne_f (a := (tkK (σ 5) t i)) (b := 3) (by omega) (by omega) c_1
    have hs3 : tkK (σ 5) t i = 3 := c_1
    have hin_ := tkK_in (T := σ 5) (t := t) (i := i) (by omega)
    refine r_aload_n (pc := 8) C 0 dX3_isByte_8 rfl rfl ?_
    refine xg_t_text (pc := 9) C fl_RX3_18 dX3_isByte_9 ?_
    refine r_aload_n (pc := 12) C 0 dX3_isByte_12 rfl rfl ?_
    refine xg_t_wordStart (pc := 13) C fl_RX3_42 dX3_isByte_13 (σ 8 0) rfl ?_
    refine r_eqi (y := nI (tkF (σ 5) t i)) (h8) ?_
    refine xl_text (pc := 16) C (tkF (σ 5) t i) (rfl) (by omega) dX3_isByte_16 ((σ 5 (tkF (σ 5) t i)).toInt8.toInt32) rfl ?_
    refine r_iload_n (pc := 17) C 1 dX3_isByte_17 rfl rfl ?_
    refine r_icmp_ne (pc := 18) C 25 dX3_isByte_18 (by decide) (fun c_2 => ?_) (fun c_2 => ?_)
    · skip
      have hs6 : ¬ bA (σ 5) t (tkF (σ 5) t i) = 59 := fun q_ => c_2 ((b8_eq (c := 59) (hb _ hin_) (by decide)).mpr ((bA_lt hin_).symm.trans q_))
      refine r_iconst (pc := 25) C 0 dX3_isByte_25 (by decide) ?_
      exact r_iret (pc := 26) C hr hlk dX3_isByte_26 rfl (bI_f (by rw [se_2 hs6]; decide)) rfl
    · skip
      have hs5 : bA (σ 5) t (tkF (σ 5) t i) = 59 := (bA_lt hin_).trans ((b8_eq (c := 59) (hb _ hin_) (by decide)).mp c_2)
      refine r_iconst (pc := 21) C 1 dX3_isByte_21 (by decide) ?_
      refine r_goto (pc := 22) C 26 dX3_isByte_22 (by decide) ?_
      exact r_iret (pc := 26) C hr hlk dX3_isByte_26 rfl (bI_t (se_0 hs3 hs5)) rfl
theorem t_X3_isByte' (l : Launch) (ad : Nat → Nat) (D : va_G) (cs : Nat → ClassId) (h : Nat → Nat) (σ : Nat → Nat → Int32) (pre post : va_W) (f5_ : Nat → Int32) (e5_ : σ 5 = f5_) (f6_ : Nat → Int32) (e6_ : σ 6 = f6_) (f7_ : Nat → Int32) (e7_ : σ 7 = f7_) (f8_ : Nat → Int32) (e8_ : σ 8 = f8_) (f9_ : Nat → Int32) (e9_ : σ 9 = f9_) (t i : Nat) (hT : f6_ 0 = nI t) (ht : t ≤ 200) (hb : ∀ j : Nat, j < t → 0 ≤ (f5_ j).toInt ∧ (f5_ j).toInt ≤ 255) (hi : i ≤ t) (h7 : f7_ 0 = nI (tkK (f5_) t i)) (h8 : f8_ 0 = nI (tkF (f5_) t i)) (h9 : f9_ 0 = nI (tkT (f5_) t i)) : CTi l yX3_isByte cX3_isByte 2 .boolean ({ frames := 0, cells := 0, slots := 0, locals := 0 }) ad D (tysW cs) (pre ++ (wX cs h σ ++ post)) [.ref (h 33), .int 59] (bI (seB (f5_) t i = true)) (pre ++ (wX cs h σ ++ post)) := by
  subst e5_; subst e6_; subst e7_; subst e8_; subst e9_
  exact t_X3_isByte l ad D cs h σ pre post t i hT ht hb hi h7 h8 h9
theorem dX3_numberRead_0 : decode cX3_numberRead 0 = .ok (.iconst 0, 1) := by decide +kernel
theorem dX3_numberRead_1 : decode cX3_numberRead 1 = .ok (.istore_n 1, 1) := by decide +kernel
theorem dX3_numberRead_2 : decode cX3_numberRead 2 = .ok (.aload_n 0, 1) := by decide +kernel
theorem dX3_numberRead_3 : decode cX3_numberRead 3 = .ok (.getfield 42, 3) := by decide +kernel
theorem dX3_numberRead_6 : decode cX3_numberRead 6 = .ok (.istore_n 2, 1) := by decide +kernel
theorem dX3_numberRead_7 : decode cX3_numberRead 7 = .ok (.iload_n 2, 1) := by decide +kernel
theorem dX3_numberRead_8 : decode cX3_numberRead 8 = .ok (.aload_n 0, 1) := by decide +kernel
theorem dX3_numberRead_9 : decode cX3_numberRead 9 = .ok (.getfield 26, 3) := by decide +kernel
theorem dX3_numberRead_12 : decode cX3_numberRead 12 = .ok (.if_icmp .ge 24, 3) := by decide +kernel
theorem dX3_numberRead_15 : decode cX3_numberRead 15 = .ok (.iload_n 1, 1) := by decide +kernel
theorem dX3_numberRead_16 : decode cX3_numberRead 16 = .ok (.bipush 10, 2) := by decide +kernel
theorem dX3_numberRead_18 : decode cX3_numberRead 18 = .ok (.imul, 1) := by decide +kernel
theorem dX3_numberRead_19 : decode cX3_numberRead 19 = .ok (.aload_n 0, 1) := by decide +kernel
theorem dX3_numberRead_20 : decode cX3_numberRead 20 = .ok (.getfield 18, 3) := by decide +kernel
theorem dX3_numberRead_23 : decode cX3_numberRead 23 = .ok (.iload_n 2, 1) := by decide +kernel
theorem dX3_numberRead_24 : decode cX3_numberRead 24 = .ok (.baload, 1) := by decide +kernel
theorem dX3_numberRead_25 : decode cX3_numberRead 25 = .ok (.bipush 48, 2) := by decide +kernel
theorem dX3_numberRead_27 : decode cX3_numberRead 27 = .ok (.isub, 1) := by decide +kernel
theorem dX3_numberRead_28 : decode cX3_numberRead 28 = .ok (.iadd, 1) := by decide +kernel
theorem dX3_numberRead_29 : decode cX3_numberRead 29 = .ok (.istore_n 1, 1) := by decide +kernel
theorem dX3_numberRead_30 : decode cX3_numberRead 30 = .ok (.iinc 2 1, 3) := by decide +kernel
theorem dX3_numberRead_33 : decode cX3_numberRead 33 = .ok (.goto (-26), 3) := by decide +kernel
theorem dX3_numberRead_36 : decode cX3_numberRead 36 = .ok (.iload_n 1, 1) := by decide +kernel
theorem dX3_numberRead_37 : decode cX3_numberRead 37 = .ok (.ireturn, 1) := by decide +kernel
set_option maxHeartbeats 400000 in
set_option maxRecDepth 20000 in
theorem t_X3_numberRead (l : Launch) (ad : Nat → Nat) (D : va_G) (cs : Nat → ClassId) (h : Nat → Nat) (σ : Nat → Nat → Int32) (pre post : va_W) (t i : Nat) (hT : σ 6 0 = nI t) (ht : t ≤ 200) (hb : ∀ j : Nat, j < t → 0 ≤ (σ 5 j).toInt ∧ (σ 5 j).toInt ≤ 255) (hi : i ≤ t) (h7 : σ 7 0 = nI (tkK (σ 5) t i)) (h8 : σ 8 0 = nI (tkF (σ 5) t i)) (h9 : σ 9 0 = nI (tkT (σ 5) t i)) (hN2 : tkK (σ 5) t i = 2) (hN3 : tkT (σ 5) t i - tkF (σ 5) t i ≤ 3) : CTi l yX3_numberRead cX3_numberRead 3 .int ({ frames := 0, cells := 0, slots := 0, locals := 0 }) ad D (tysW cs) (pre ++ (wX cs h σ ++ post)) [.ref (h 33)] (tkV (σ 5) t i) (pre ++ (wX cs h σ ++ post)) := by
  refine CTi.of (lv0 := [(0, .ref (h 33))]) (by decide) rfl (Nat.le_of_ble_eq_true rfl) (fun p e s m args below meth c A C hr hlk => ?_)
  have C : Cx p s m args c cX3_numberRead 3 RX3 ad D (tysW cs) A := C
  have hk_ := tkK_le (σ 5) t i
  have hf_ := tkF_le (T := σ 5) hi
  have ht_ := tkT_le (T := σ 5) hi
  refine r_iconst (pc := 0) C 0 dX3_numberRead_0 (by decide) ?_
  refine r_istore_n (pc := 1) C [(1, .int 0), (0, .ref (h 33))] dX3_numberRead_1 rfl (by decide) rfl ?_
  refine r_aload_n (pc := 2) C 1 dX3_numberRead_2 rfl rfl ?_
  refine xg_t_wordStart (pc := 3) C fl_RX3_42 dX3_numberRead_3 (σ 8 0) rfl ?_
  refine r_eqi (y := nI (tkF (σ 5) t i)) (h8) ?_
  refine r_istore_n (pc := 6) C [(2, .int (nI (tkF (σ 5) t i))), (1, .int 0), (0, .ref (h 33))] dX3_numberRead_6 rfl (by decide) rfl ?_
  refine r_pick (lv' := [(0, .ref (h 33)), (1, .int 0), (2, .int (nI (tkF (σ 5) t i)))]) [2, 1, 0] rfl ?_
  refine r_lv (lv' := [(0, .ref (h 33)), (1, .int (vF (σ 5) (tkF (σ 5) t i) 0)), (2, .int (nI (tkF (σ 5) t i + 0)))]) (rfl) ?_
  refine r_loop (blkf := fun k => wX cs h σ) (lvf := fun k => [(0, .ref (h 33)), (1, .int (vF (σ 5) (tkF (σ 5) t i) k)), (2, .int (nI (tkF (σ 5) t i + k)))]) (fun k => True) (tkT (σ 5) t i - tkF (σ 5) t i) 0 (by omega) (trivial) (fun k h_k _ ih_7 => ?_)
  show VX p l e _ s m args below meth c _ D A 3 pre (wX cs h σ) post 7 [(0, .ref (h 33)), (1, .int (vF (σ 5) (tkF (σ 5) t i) k)), (2, .int (nI (tkF (σ 5) t i + k)))] []
  refine r_iload_n (pc := 7) C 2 dX3_numberRead_7 rfl rfl ?_
  refine r_aload_n (pc := 8) C 0 dX3_numberRead_8 rfl rfl ?_
  refine xg_t_next (pc := 9) C fl_RX3_26 dX3_numberRead_9 (σ 9 0) rfl ?_
  refine r_eqi (y := nI (tkT (σ 5) t i)) (h9) ?_
  refine r_icmp_ge (pc := 12) C 36 dX3_numberRead_12 (by decide) (fun c_1 => ?_) (fun c_1 => ?_)
  · skip
    have c_1 := nIc_ge_t (a := (tkF (σ 5) t i + k)) (b := (tkT (σ 5) t i)) (by omega) (by omega) c_1
    have hk9 : k = tkT (σ 5) t i - tkF (σ 5) t i := by omega
    refine r_iload_n (pc := 36) C 1 dX3_numberRead_36 rfl rfl ?_
    exact r_iret (pc := 37) C hr hlk dX3_numberRead_37 rfl (by rw [tkV, if_pos hN2, hk9]) rfl
  · skip
    have c_1 := nIc_ge_f (a := (tkF (σ 5) t i + k)) (b := (tkT (σ 5) t i)) (by omega) (by omega) c_1
    refine r_iload_n (pc := 15) C 1 dX3_numberRead_15 rfl rfl ?_
    refine r_bipush (pc := 16) C 10 dX3_numberRead_16 (by decide) ?_
    refine r_imul (pc := 18) C dX3_numberRead_18 ?_
    refine r_aload_n (pc := 19) C 0 dX3_numberRead_19 rfl rfl ?_
    refine xg_t_text (pc := 20) C fl_RX3_18 dX3_numberRead_20 ?_
    refine r_iload_n (pc := 23) C 2 dX3_numberRead_23 rfl rfl ?_
    refine xl_text (pc := 24) C (tkF (σ 5) t i + k) (rfl) (by omega) dX3_numberRead_24 ((σ 5 (tkF (σ 5) t i + k)).toInt8.toInt32) rfl ?_
    refine r_bipush (pc := 25) C 48 dX3_numberRead_25 (by decide) ?_
    refine r_isub (pc := 27) C dX3_numberRead_27 ?_
    refine r_iadd (pc := 28) C dX3_numberRead_28 ?_
    refine r_istore_n (pc := 29) C [(1, .int (((vF (σ 5) (tkF (σ 5) t i) k) * 10) + (((σ 5 (tkF (σ 5) t i + k)).toInt8.toInt32) - 48))), (0, .ref (h 33)), (2, .int (nI (tkF (σ 5) t i + k)))] dX3_numberRead_29 rfl (by decide) rfl ?_
    refine r_iinc (pc := 30) C (nI (tkF (σ 5) t i + k + 1)) 2 [(2, .int (nI (tkF (σ 5) t i + k + 1))), (1, .int (((vF (σ 5) (tkF (σ 5) t i) k) * 10) + (((σ 5 (tkF (σ 5) t i + k)).toInt8.toInt32) - 48))), (0, .ref (h 33))] dX3_numberRead_30 rfl (nI_1 _) (by decide) rfl ?_
    refine r_goto (pc := 33) C 7 dX3_numberRead_33 (by decide) ?_
    refine r_pick (lv' := [(0, .ref (h 33)), (1, .int (((vF (σ 5) (tkF (σ 5) t i) k) * 10) + (((σ 5 (tkF (σ 5) t i + k)).toInt8.toInt32) - 48))), (2, .int (nI (tkF (σ 5) t i + k + 1)))]) [2, 1, 0] rfl ?_
    refine r_lv (lv' := [(0, .ref (h 33)), (1, .int (vF (σ 5) (tkF (σ 5) t i) (k + 1))), (2, .int (nI (tkF (σ 5) t i + (k + 1))))]) (lvc rfl (lvc (congrArg Value.int (show (((vF (σ 5) (tkF (σ 5) t i) k) * 10) + (((σ 5 (tkF (σ 5) t i + k)).toInt8.toInt32) - 48) : Int32) = vF (σ 5) (tkF (σ 5) t i) (k + 1) from (vF_s (by omega) (fun j_ hj_ => ⟨hb _ (by omega), dg_in hN2 (by omega) (by omega)⟩) ⟨hb _ (by omega), dg_in hN2 (by omega) (by omega)⟩))) (lvc rfl rfl))) ?_
    exact ih_7 (by omega) (trivial)
theorem t_X3_numberRead' (l : Launch) (ad : Nat → Nat) (D : va_G) (cs : Nat → ClassId) (h : Nat → Nat) (σ : Nat → Nat → Int32) (pre post : va_W) (f5_ : Nat → Int32) (e5_ : σ 5 = f5_) (f6_ : Nat → Int32) (e6_ : σ 6 = f6_) (f7_ : Nat → Int32) (e7_ : σ 7 = f7_) (f8_ : Nat → Int32) (e8_ : σ 8 = f8_) (f9_ : Nat → Int32) (e9_ : σ 9 = f9_) (t i : Nat) (hT : f6_ 0 = nI t) (ht : t ≤ 200) (hb : ∀ j : Nat, j < t → 0 ≤ (f5_ j).toInt ∧ (f5_ j).toInt ≤ 255) (hi : i ≤ t) (h7 : f7_ 0 = nI (tkK (f5_) t i)) (h8 : f8_ 0 = nI (tkF (f5_) t i)) (h9 : f9_ 0 = nI (tkT (f5_) t i)) (hN2 : tkK (f5_) t i = 2) (hN3 : tkT (f5_) t i - tkF (f5_) t i ≤ 3) : CTi l yX3_numberRead cX3_numberRead 3 .int ({ frames := 0, cells := 0, slots := 0, locals := 0 }) ad D (tysW cs) (pre ++ (wX cs h σ ++ post)) [.ref (h 33)] (tkV (f5_) t i) (pre ++ (wX cs h σ ++ post)) := by
  subst e5_; subst e6_; subst e7_; subst e8_; subst e9_
  exact t_X3_numberRead l ad D cs h σ pre post t i hT ht hb hi h7 h8 h9 hN2 hN3
theorem dX3_isNumberTo_0 : decode cX3_isNumberTo 0 = .ok (.aload_n 0, 1) := by decide +kernel
theorem dX3_isNumberTo_1 : decode cX3_isNumberTo 1 = .ok (.getfield 35, 3) := by decide +kernel
theorem dX3_isNumberTo_4 : decode cX3_isNumberTo 4 = .ok (.iconst 2, 1) := by decide +kernel
theorem dX3_isNumberTo_5 : decode cX3_isNumberTo 5 = .ok (.if_icmp .ne 28, 3) := by decide +kernel
theorem dX3_isNumberTo_8 : decode cX3_isNumberTo 8 = .ok (.aload_n 0, 1) := by decide +kernel
theorem dX3_isNumberTo_9 : decode cX3_isNumberTo 9 = .ok (.getfield 26, 3) := by decide +kernel
theorem dX3_isNumberTo_12 : decode cX3_isNumberTo 12 = .ok (.aload_n 0, 1) := by decide +kernel
theorem dX3_isNumberTo_13 : decode cX3_isNumberTo 13 = .ok (.getfield 42, 3) := by decide +kernel
theorem dX3_isNumberTo_16 : decode cX3_isNumberTo 16 = .ok (.isub, 1) := by decide +kernel
theorem dX3_isNumberTo_17 : decode cX3_isNumberTo 17 = .ok (.iconst 3, 1) := by decide +kernel
theorem dX3_isNumberTo_18 : decode cX3_isNumberTo 18 = .ok (.if_icmp .gt 15, 3) := by decide +kernel
theorem dX3_isNumberTo_21 : decode cX3_isNumberTo 21 = .ok (.aload_n 0, 1) := by decide +kernel
theorem dX3_isNumberTo_22 : decode cX3_isNumberTo 22 = .ok (.invokevirtual 73, 3) := by decide +kernel
theorem dX3_isNumberTo_25 : decode cX3_isNumberTo 25 = .ok (.iload_n 1, 1) := by decide +kernel
theorem dX3_isNumberTo_26 : decode cX3_isNumberTo 26 = .ok (.if_icmp .gt 7, 3) := by decide +kernel
theorem dX3_isNumberTo_29 : decode cX3_isNumberTo 29 = .ok (.iconst 1, 1) := by decide +kernel
theorem dX3_isNumberTo_30 : decode cX3_isNumberTo 30 = .ok (.goto 4, 3) := by decide +kernel
theorem dX3_isNumberTo_33 : decode cX3_isNumberTo 33 = .ok (.iconst 0, 1) := by decide +kernel
theorem dX3_isNumberTo_34 : decode cX3_isNumberTo 34 = .ok (.ireturn, 1) := by decide +kernel
set_option maxHeartbeats 400000 in
set_option maxRecDepth 20000 in
theorem t_X3_isNumberTo (l : Launch) (ad : Nat → Nat) (D : va_G) (cs : Nat → ClassId) (h : Nat → Nat) (σ : Nat → Nat → Int32) (pre post : va_W) (t i : Nat) (v : Int32) (hT : σ 6 0 = nI t) (ht : t ≤ 200) (hb : ∀ j : Nat, j < t → 0 ≤ (σ 5 j).toInt ∧ (σ 5 j).toInt ≤ 255) (hi : i ≤ t) (h7 : σ 7 0 = nI (tkK (σ 5) t i)) (h8 : σ 8 0 = nI (tkF (σ 5) t i)) (h9 : σ 9 0 = nI (tkT (σ 5) t i)) : CTi l yX3_isNumberTo cX3_isNumberTo 2 .boolean ({ frames := 1, cells := 0, slots := 0, locals := 22 }) ad D (tysW cs) (pre ++ (wX cs h σ ++ post)) [.ref (h 33), .int v] (bI (nbB (σ 5) t i v = true)) (pre ++ (wX cs h σ ++ post)) := by
  refine CTi.of (lv0 := [(0, .ref (h 33)), (1, .int v)]) (by decide) rfl (Nat.le_of_ble_eq_true rfl) (fun p e s m args below meth c A C hr hlk => ?_)
  have C : Cx p s m args c cX3_isNumberTo 2 RX3 ad D (tysW cs) A := C
  have hk_ := tkK_le (σ 5) t i
  have hf_ := tkF_le (T := σ 5) hi
  have ht_ := tkT_le (T := σ 5) hi
  refine r_aload_n (pc := 0) C 0 dX3_isNumberTo_0 rfl rfl ?_
  refine xg_t_word (pc := 1) C fl_RX3_35 dX3_isNumberTo_1 (σ 7 0) rfl ?_
  refine r_eqi (y := nI (tkK (σ 5) t i)) (h7) ?_
  refine r_iconst (pc := 4) C 2 dX3_isNumberTo_4 (by decide) ?_
  refine r_icmp_ne (pc := 5) C 33 dX3_isNumberTo_5 (by decide) (fun c_1 => ?_) (fun c_1 => ?_)
  · skip
    have c_1 := nIc_ne_t (a := (tkK (σ 5) t i)) (b := 2) (by omega) (by omega) c_1
    refine r_iconst (pc := 33) C 0 dX3_isNumberTo_33 (by decide) ?_
    exact r_iret (pc := 34) C hr hlk dX3_isNumberTo_34 rfl (by first | exact bI_t (nb_0 ‹_› (by omega) ‹_›) | exact bI_f (by rw [nb_1 ‹_›]; decide) | exact bI_f (by rw [nb_2 (by omega)]; decide) | exact bI_f (by rw [nb_3 (Int32.not_le.mpr ‹_›)]; decide)) rfl
  · skip
    have c_1 := nIc_ne_f (a := (tkK (σ 5) t i)) (b := 2) (by omega) (by omega) c_1
    have hN2 : tkK (σ 5) t i = 2 := c_1
    refine r_aload_n (pc := 8) C 0 dX3_isNumberTo_8 rfl rfl ?_
    refine xg_t_next (pc := 9) C fl_RX3_26 dX3_isNumberTo_9 (σ 9 0) rfl ?_
    refine r_eqi (y := nI (tkT (σ 5) t i)) (h9) ?_
    refine r_aload_n (pc := 12) C 0 dX3_isNumberTo_12 rfl rfl ?_
    refine xg_t_wordStart (pc := 13) C fl_RX3_42 dX3_isNumberTo_13 (σ 8 0) rfl ?_
    refine r_eqi (y := nI (tkF (σ 5) t i)) (h8) ?_
    refine r_isub (pc := 16) C dX3_isNumberTo_16 ?_
    refine r_eqi (y := nI (tkT (σ 5) t i - tkF (σ 5) t i)) (pk_sub (by omega)) ?_
    refine r_iconst (pc := 17) C 3 dX3_isNumberTo_17 (by decide) ?_
    refine r_icmp_gt (pc := 18) C 33 dX3_isNumberTo_18 (by decide) (fun c_2 => ?_) (fun c_2 => ?_)
    · skip
      have c_2 := nIc_gt_t (a := (tkT (σ 5) t i - tkF (σ 5) t i)) (b := 3) (by omega) (by omega) c_2
      refine r_iconst (pc := 33) C 0 dX3_isNumberTo_33 (by decide) ?_
      exact r_iret (pc := 34) C hr hlk dX3_isNumberTo_34 rfl (by first | exact bI_t (nb_0 ‹_› (by omega) ‹_›) | exact bI_f (by rw [nb_1 ‹_›]; decide) | exact bI_f (by rw [nb_2 (by omega)]; decide) | exact bI_f (by rw [nb_3 (Int32.not_le.mpr ‹_›)]; decide)) rfl
    · skip
      have c_2 := nIc_gt_f (a := (tkT (σ 5) t i - tkF (σ 5) t i)) (b := 3) (by omega) (by omega) c_2
      have hN3 : tkT (σ 5) t i - tkF (σ 5) t i ≤ 3 := by omega
      refine r_aload_n (pc := 21) C 0 dX3_isNumberTo_21 rfl rfl ?_
      refine rc_Vi (pc := 22) C (t_X3_numberRead' l ad D cs h σ pre post (σ 5) (rfl) (σ 6) (rfl) (σ 7) (rfl) (σ 8) (rfl) (σ 9) (rfl) t i hT ht hb hi h7 h8 h9 (by omega) (by omega)) mv_X3_numberRead ml_RX3_73 rfl ⟨Nat.le_of_ble_eq_true rfl, Nat.le_of_ble_eq_true rfl⟩ ⟨rfl, rfl⟩ (q0 := 33) rfl rfl rfl rfl rfl rfl (Nat.le_of_ble_eq_true rfl) dX3_isNumberTo_22 ?_
      refine r_iload_n (pc := 25) C 1 dX3_isNumberTo_25 rfl rfl ?_
      refine r_icmp_gt (pc := 26) C 33 dX3_isNumberTo_26 (by decide) (fun c_3 => ?_) (fun c_3 => ?_)
      · skip
        refine r_iconst (pc := 33) C 0 dX3_isNumberTo_33 (by decide) ?_
        exact r_iret (pc := 34) C hr hlk dX3_isNumberTo_34 rfl (by first | exact bI_t (nb_0 ‹_› (by omega) ‹_›) | exact bI_f (by rw [nb_1 ‹_›]; decide) | exact bI_f (by rw [nb_2 (by omega)]; decide) | exact bI_f (by rw [nb_3 (Int32.not_le.mpr ‹_›)]; decide)) rfl
      · skip
        have hv_ := Int32.not_lt.mp c_3
        refine r_iconst (pc := 29) C 1 dX3_isNumberTo_29 (by decide) ?_
        refine r_goto (pc := 30) C 34 dX3_isNumberTo_30 (by decide) ?_
        exact r_iret (pc := 34) C hr hlk dX3_isNumberTo_34 rfl (by first | exact bI_t (nb_0 ‹_› (by omega) ‹_›) | exact bI_f (by rw [nb_1 ‹_›]; decide) | exact bI_f (by rw [nb_2 (by omega)]; decide) | exact bI_f (by rw [nb_3 (Int32.not_le.mpr ‹_›)]; decide)) rfl
theorem t_X3_isNumberTo' (l : Launch) (ad : Nat → Nat) (D : va_G) (cs : Nat → ClassId) (h : Nat → Nat) (σ : Nat → Nat → Int32) (pre post : va_W) (f5_ : Nat → Int32) (e5_ : σ 5 = f5_) (f6_ : Nat → Int32) (e6_ : σ 6 = f6_) (f7_ : Nat → Int32) (e7_ : σ 7 = f7_) (f8_ : Nat → Int32) (e8_ : σ 8 = f8_) (f9_ : Nat → Int32) (e9_ : σ 9 = f9_) (t i : Nat) (v : Int32) (hT : f6_ 0 = nI t) (ht : t ≤ 200) (hb : ∀ j : Nat, j < t → 0 ≤ (f5_ j).toInt ∧ (f5_ j).toInt ≤ 255) (hi : i ≤ t) (h7 : f7_ 0 = nI (tkK (f5_) t i)) (h8 : f8_ 0 = nI (tkF (f5_) t i)) (h9 : f9_ 0 = nI (tkT (f5_) t i)) : CTi l yX3_isNumberTo cX3_isNumberTo 2 .boolean ({ frames := 1, cells := 0, slots := 0, locals := 22 }) ad D (tysW cs) (pre ++ (wX cs h σ ++ post)) [.ref (h 33), .int v] (bI (nbB (f5_) t i v = true)) (pre ++ (wX cs h σ ++ post)) := by
  subst e5_; subst e6_; subst e7_; subst e8_; subst e9_
  exact t_X3_isNumberTo l ad D cs h σ pre post t i v hT ht hb hi h7 h8 h9
theorem dX3_lawNamed_0 : decode cX3_lawNamed 0 = .ok (.aload_n 0, 1) := by decide +kernel
theorem dX3_lawNamed_1 : decode cX3_lawNamed 1 = .ok (.ldc 103, 2) := by decide +kernel
theorem dX3_lawNamed_3 : decode cX3_lawNamed 3 = .ok (.invokevirtual 95, 3) := by decide +kernel
theorem dX3_lawNamed_6 : decode cX3_lawNamed 6 = .ok (.ifCond .eq 7, 3) := by decide +kernel
theorem dX3_lawNamed_9 : decode cX3_lawNamed 9 = .ok (.iconst 0, 1) := by decide +kernel
theorem dX3_lawNamed_10 : decode cX3_lawNamed 10 = .ok (.goto 43, 3) := by decide +kernel
theorem dX3_lawNamed_13 : decode cX3_lawNamed 13 = .ok (.aload_n 0, 1) := by decide +kernel
theorem dX3_lawNamed_14 : decode cX3_lawNamed 14 = .ok (.ldc 105, 2) := by decide +kernel
theorem dX3_lawNamed_16 : decode cX3_lawNamed 16 = .ok (.invokevirtual 95, 3) := by decide +kernel
theorem dX3_lawNamed_19 : decode cX3_lawNamed 19 = .ok (.ifCond .eq 7, 3) := by decide +kernel
theorem dX3_lawNamed_22 : decode cX3_lawNamed 22 = .ok (.iconst 1, 1) := by decide +kernel
theorem dX3_lawNamed_23 : decode cX3_lawNamed 23 = .ok (.goto 30, 3) := by decide +kernel
theorem dX3_lawNamed_26 : decode cX3_lawNamed 26 = .ok (.aload_n 0, 1) := by decide +kernel
theorem dX3_lawNamed_27 : decode cX3_lawNamed 27 = .ok (.ldc 107, 2) := by decide +kernel
theorem dX3_lawNamed_29 : decode cX3_lawNamed 29 = .ok (.invokevirtual 95, 3) := by decide +kernel
theorem dX3_lawNamed_32 : decode cX3_lawNamed 32 = .ok (.ifCond .eq 7, 3) := by decide +kernel
theorem dX3_lawNamed_35 : decode cX3_lawNamed 35 = .ok (.iconst 2, 1) := by decide +kernel
theorem dX3_lawNamed_36 : decode cX3_lawNamed 36 = .ok (.goto 17, 3) := by decide +kernel
theorem dX3_lawNamed_39 : decode cX3_lawNamed 39 = .ok (.aload_n 0, 1) := by decide +kernel
theorem dX3_lawNamed_40 : decode cX3_lawNamed 40 = .ok (.ldc 109, 2) := by decide +kernel
theorem dX3_lawNamed_42 : decode cX3_lawNamed 42 = .ok (.invokevirtual 95, 3) := by decide +kernel
theorem dX3_lawNamed_45 : decode cX3_lawNamed 45 = .ok (.ifCond .eq 7, 3) := by decide +kernel
theorem dX3_lawNamed_48 : decode cX3_lawNamed 48 = .ok (.iconst 3, 1) := by decide +kernel
theorem dX3_lawNamed_49 : decode cX3_lawNamed 49 = .ok (.goto 4, 3) := by decide +kernel
theorem dX3_lawNamed_52 : decode cX3_lawNamed 52 = .ok (.iconst (-1), 1) := by decide +kernel
theorem dX3_lawNamed_53 : decode cX3_lawNamed 53 = .ok (.ireturn, 1) := by decide +kernel
set_option maxHeartbeats 400000 in
set_option maxRecDepth 20000 in
theorem t_X3_lawNamed (l : Launch) (ad : Nat → Nat) (D : va_G) (cs : Nat → ClassId) (h : Nat → Nat) (σ : Nat → Nat → Int32) (pre post : va_W) (t i : Nat) (hT : σ 6 0 = nI t) (ht : t ≤ 200) (hb : ∀ j : Nat, j < t → 0 ≤ (σ 5 j).toInt ∧ (σ 5 j).toInt ≤ 255) (hi : i ≤ t) (h7 : σ 7 0 = nI (tkK (σ 5) t i)) (h8 : σ 8 0 = nI (tkF (σ 5) t i)) (h9 : σ 9 0 = nI (tkT (σ 5) t i)) : CTi l yX3_lawNamed cX3_lawNamed 1 .int ({ frames := 6, cells := 0, slots := 0, locals := 128 }) ad D (tysW cs) (pre ++ (wX cs h σ ++ post)) [.ref (h 33)] (laC (σ 5) t i) (pre ++ (wX cs h σ ++ post)) := by
  refine CTi.of (lv0 := [(0, .ref (h 33))]) (by decide) rfl (Nat.le_of_ble_eq_true rfl) (fun p e s m args below meth c A C hr hlk => ?_)
  have C : Cx p s m args c cX3_lawNamed 1 RX3 ad D (tysW cs) A := C
  have hk_ := tkK_le (σ 5) t i
  have hf_ := tkF_le (T := σ 5) hi
  have ht_ := tkT_le (T := σ 5) hi
  refine r_aload_n (pc := 0) C 0 dX3_lawNamed_0 rfl rfl ?_
  refine r_ldcS (pc := 1) C 0 (by decide) rfl dX3_lawNamed_1 ?_
  refine rc_Vi (pc := 3) C (t_X3_isName' l ad D cs h σ pre post (σ 5) (rfl) (σ 6) (rfl) (σ 7) (rfl) (σ 8) (rfl) (σ 9) (rfl) t i 0 hT ht hb hi h7 h8 h9 (by omega)) mv_X3_isName ml_RX3_95 rfl ⟨Nat.le_of_ble_eq_true rfl, Nat.le_of_ble_eq_true rfl⟩ ⟨rfl, rfl⟩ (q0 := 33) rfl rfl rfl rfl rfl rfl (Nat.le_of_ble_eq_true rfl) dX3_lawNamed_3 ?_
  refine r_if_eq (pc := 6) C 13 dX3_lawNamed_6 (by decide) (fun c_1 => ?_) (fun c_1 => ?_)
  · skip
    have c_1 := bI_0.mp c_1
    refine r_aload_n (pc := 13) C 0 dX3_lawNamed_13 rfl rfl ?_
    refine r_ldcS (pc := 14) C 1 (by decide) rfl dX3_lawNamed_14 ?_
    refine rc_Vi (pc := 16) C (t_X3_isName' l ad D cs h σ pre post (σ 5) (rfl) (σ 6) (rfl) (σ 7) (rfl) (σ 8) (rfl) (σ 9) (rfl) t i 1 hT ht hb hi h7 h8 h9 (by omega)) mv_X3_isName ml_RX3_95 rfl ⟨Nat.le_of_ble_eq_true rfl, Nat.le_of_ble_eq_true rfl⟩ ⟨rfl, rfl⟩ (q0 := 33) rfl rfl rfl rfl rfl rfl (Nat.le_of_ble_eq_true rfl) dX3_lawNamed_16 ?_
    refine r_if_eq (pc := 19) C 26 dX3_lawNamed_19 (by decide) (fun c_2 => ?_) (fun c_2 => ?_)
    · skip
      have c_2 := bI_0.mp c_2
      refine r_aload_n (pc := 26) C 0 dX3_lawNamed_26 rfl rfl ?_
      refine r_ldcS (pc := 27) C 2 (by decide) rfl dX3_lawNamed_27 ?_
      refine rc_Vi (pc := 29) C (t_X3_isName' l ad D cs h σ pre post (σ 5) (rfl) (σ 6) (rfl) (σ 7) (rfl) (σ 8) (rfl) (σ 9) (rfl) t i 2 hT ht hb hi h7 h8 h9 (by omega)) mv_X3_isName ml_RX3_95 rfl ⟨Nat.le_of_ble_eq_true rfl, Nat.le_of_ble_eq_true rfl⟩ ⟨rfl, rfl⟩ (q0 := 33) rfl rfl rfl rfl rfl rfl (Nat.le_of_ble_eq_true rfl) dX3_lawNamed_29 ?_
      refine r_if_eq (pc := 32) C 39 dX3_lawNamed_32 (by decide) (fun c_3 => ?_) (fun c_3 => ?_)
      · skip
        have c_3 := bI_0.mp c_3
        refine r_aload_n (pc := 39) C 0 dX3_lawNamed_39 rfl rfl ?_
        refine r_ldcS (pc := 40) C 3 (by decide) rfl dX3_lawNamed_40 ?_
        refine rc_Vi (pc := 42) C (t_X3_isName' l ad D cs h σ pre post (σ 5) (rfl) (σ 6) (rfl) (σ 7) (rfl) (σ 8) (rfl) (σ 9) (rfl) t i 3 hT ht hb hi h7 h8 h9 (by omega)) mv_X3_isName ml_RX3_95 rfl ⟨Nat.le_of_ble_eq_true rfl, Nat.le_of_ble_eq_true rfl⟩ ⟨rfl, rfl⟩ (q0 := 33) rfl rfl rfl rfl rfl rfl (Nat.le_of_ble_eq_true rfl) dX3_lawNamed_42 ?_
        refine r_if_eq (pc := 45) C 52 dX3_lawNamed_45 (by decide) (fun c_4 => ?_) (fun c_4 => ?_)
        · skip
          have c_4 := bI_0.mp c_4
          refine r_iconst (pc := 52) C (-1) dX3_lawNamed_52 (by decide) ?_
          exact r_iret (pc := 53) C hr hlk dX3_lawNamed_53 rfl (by simp [laC, *]) rfl
        · skip
          have c_4 := bI_n.mp c_4
          refine r_iconst (pc := 48) C 3 dX3_lawNamed_48 (by decide) ?_
          refine r_goto (pc := 49) C 53 dX3_lawNamed_49 (by decide) ?_
          exact r_iret (pc := 53) C hr hlk dX3_lawNamed_53 rfl (by simp [laC, *]) rfl
      · skip
        have c_3 := bI_n.mp c_3
        refine r_iconst (pc := 35) C 2 dX3_lawNamed_35 (by decide) ?_
        refine r_goto (pc := 36) C 53 dX3_lawNamed_36 (by decide) ?_
        exact r_iret (pc := 53) C hr hlk dX3_lawNamed_53 rfl (by simp [laC, *]) rfl
    · skip
      have c_2 := bI_n.mp c_2
      refine r_iconst (pc := 22) C 1 dX3_lawNamed_22 (by decide) ?_
      refine r_goto (pc := 23) C 53 dX3_lawNamed_23 (by decide) ?_
      exact r_iret (pc := 53) C hr hlk dX3_lawNamed_53 rfl (by simp [laC, *]) rfl
  · skip
    have c_1 := bI_n.mp c_1
    refine r_iconst (pc := 9) C 0 dX3_lawNamed_9 (by decide) ?_
    refine r_goto (pc := 10) C 53 dX3_lawNamed_10 (by decide) ?_
    exact r_iret (pc := 53) C hr hlk dX3_lawNamed_53 rfl (by simp [laC, *]) rfl
theorem t_X3_lawNamed' (l : Launch) (ad : Nat → Nat) (D : va_G) (cs : Nat → ClassId) (h : Nat → Nat) (σ : Nat → Nat → Int32) (pre post : va_W) (f5_ : Nat → Int32) (e5_ : σ 5 = f5_) (f6_ : Nat → Int32) (e6_ : σ 6 = f6_) (f7_ : Nat → Int32) (e7_ : σ 7 = f7_) (f8_ : Nat → Int32) (e8_ : σ 8 = f8_) (f9_ : Nat → Int32) (e9_ : σ 9 = f9_) (t i : Nat) (hT : f6_ 0 = nI t) (ht : t ≤ 200) (hb : ∀ j : Nat, j < t → 0 ≤ (f5_ j).toInt ∧ (f5_ j).toInt ≤ 255) (hi : i ≤ t) (h7 : f7_ 0 = nI (tkK (f5_) t i)) (h8 : f8_ 0 = nI (tkF (f5_) t i)) (h9 : f9_ 0 = nI (tkT (f5_) t i)) : CTi l yX3_lawNamed cX3_lawNamed 1 .int ({ frames := 6, cells := 0, slots := 0, locals := 128 }) ad D (tysW cs) (pre ++ (wX cs h σ ++ post)) [.ref (h 33)] (laC (f5_) t i) (pre ++ (wX cs h σ ++ post)) := by
  subst e5_; subst e6_; subst e7_; subst e8_; subst e9_
  exact t_X3_lawNamed l ad D cs h σ pre post t i hT ht hb hi h7 h8 h9
theorem dX3_kindNamed_0 : decode cX3_kindNamed 0 = .ok (.aload_n 0, 1) := by decide +kernel
theorem dX3_kindNamed_1 : decode cX3_kindNamed 1 = .ok (.ldc 111, 2) := by decide +kernel
theorem dX3_kindNamed_3 : decode cX3_kindNamed 3 = .ok (.invokevirtual 95, 3) := by decide +kernel
theorem dX3_kindNamed_6 : decode cX3_kindNamed 6 = .ok (.ifCond .eq 7, 3) := by decide +kernel
theorem dX3_kindNamed_9 : decode cX3_kindNamed 9 = .ok (.iconst 0, 1) := by decide +kernel
theorem dX3_kindNamed_10 : decode cX3_kindNamed 10 = .ok (.goto 69, 3) := by decide +kernel
theorem dX3_kindNamed_13 : decode cX3_kindNamed 13 = .ok (.aload_n 0, 1) := by decide +kernel
theorem dX3_kindNamed_14 : decode cX3_kindNamed 14 = .ok (.ldc 113, 2) := by decide +kernel
theorem dX3_kindNamed_16 : decode cX3_kindNamed 16 = .ok (.invokevirtual 95, 3) := by decide +kernel
theorem dX3_kindNamed_19 : decode cX3_kindNamed 19 = .ok (.ifCond .eq 7, 3) := by decide +kernel
theorem dX3_kindNamed_22 : decode cX3_kindNamed 22 = .ok (.iconst 1, 1) := by decide +kernel
theorem dX3_kindNamed_23 : decode cX3_kindNamed 23 = .ok (.goto 56, 3) := by decide +kernel
theorem dX3_kindNamed_26 : decode cX3_kindNamed 26 = .ok (.aload_n 0, 1) := by decide +kernel
theorem dX3_kindNamed_27 : decode cX3_kindNamed 27 = .ok (.ldc 115, 2) := by decide +kernel
theorem dX3_kindNamed_29 : decode cX3_kindNamed 29 = .ok (.invokevirtual 95, 3) := by decide +kernel
theorem dX3_kindNamed_32 : decode cX3_kindNamed 32 = .ok (.ifCond .eq 7, 3) := by decide +kernel
theorem dX3_kindNamed_35 : decode cX3_kindNamed 35 = .ok (.iconst 2, 1) := by decide +kernel
theorem dX3_kindNamed_36 : decode cX3_kindNamed 36 = .ok (.goto 43, 3) := by decide +kernel
theorem dX3_kindNamed_39 : decode cX3_kindNamed 39 = .ok (.aload_n 0, 1) := by decide +kernel
theorem dX3_kindNamed_40 : decode cX3_kindNamed 40 = .ok (.ldc 117, 2) := by decide +kernel
theorem dX3_kindNamed_42 : decode cX3_kindNamed 42 = .ok (.invokevirtual 95, 3) := by decide +kernel
theorem dX3_kindNamed_45 : decode cX3_kindNamed 45 = .ok (.ifCond .eq 7, 3) := by decide +kernel
theorem dX3_kindNamed_48 : decode cX3_kindNamed 48 = .ok (.iconst 3, 1) := by decide +kernel
theorem dX3_kindNamed_49 : decode cX3_kindNamed 49 = .ok (.goto 30, 3) := by decide +kernel
theorem dX3_kindNamed_52 : decode cX3_kindNamed 52 = .ok (.aload_n 0, 1) := by decide +kernel
theorem dX3_kindNamed_53 : decode cX3_kindNamed 53 = .ok (.ldc 119, 2) := by decide +kernel
theorem dX3_kindNamed_55 : decode cX3_kindNamed 55 = .ok (.invokevirtual 95, 3) := by decide +kernel
theorem dX3_kindNamed_58 : decode cX3_kindNamed 58 = .ok (.ifCond .eq 7, 3) := by decide +kernel
theorem dX3_kindNamed_61 : decode cX3_kindNamed 61 = .ok (.iconst 4, 1) := by decide +kernel
theorem dX3_kindNamed_62 : decode cX3_kindNamed 62 = .ok (.goto 17, 3) := by decide +kernel
theorem dX3_kindNamed_65 : decode cX3_kindNamed 65 = .ok (.aload_n 0, 1) := by decide +kernel
theorem dX3_kindNamed_66 : decode cX3_kindNamed 66 = .ok (.ldc 121, 2) := by decide +kernel
theorem dX3_kindNamed_68 : decode cX3_kindNamed 68 = .ok (.invokevirtual 95, 3) := by decide +kernel
theorem dX3_kindNamed_71 : decode cX3_kindNamed 71 = .ok (.ifCond .eq 7, 3) := by decide +kernel
theorem dX3_kindNamed_74 : decode cX3_kindNamed 74 = .ok (.iconst 5, 1) := by decide +kernel
theorem dX3_kindNamed_75 : decode cX3_kindNamed 75 = .ok (.goto 4, 3) := by decide +kernel
theorem dX3_kindNamed_78 : decode cX3_kindNamed 78 = .ok (.iconst (-1), 1) := by decide +kernel
theorem dX3_kindNamed_79 : decode cX3_kindNamed 79 = .ok (.ireturn, 1) := by decide +kernel
set_option maxHeartbeats 400000 in
set_option maxRecDepth 20000 in
theorem t_X3_kindNamed (l : Launch) (ad : Nat → Nat) (D : va_G) (cs : Nat → ClassId) (h : Nat → Nat) (σ : Nat → Nat → Int32) (pre post : va_W) (t i : Nat) (hT : σ 6 0 = nI t) (ht : t ≤ 200) (hb : ∀ j : Nat, j < t → 0 ≤ (σ 5 j).toInt ∧ (σ 5 j).toInt ≤ 255) (hi : i ≤ t) (h7 : σ 7 0 = nI (tkK (σ 5) t i)) (h8 : σ 8 0 = nI (tkF (σ 5) t i)) (h9 : σ 9 0 = nI (tkT (σ 5) t i)) : CTi l yX3_kindNamed cX3_kindNamed 1 .int ({ frames := 6, cells := 0, slots := 0, locals := 128 }) ad D (tysW cs) (pre ++ (wX cs h σ ++ post)) [.ref (h 33)] (kiC (σ 5) t i) (pre ++ (wX cs h σ ++ post)) := by
  refine CTi.of (lv0 := [(0, .ref (h 33))]) (by decide) rfl (Nat.le_of_ble_eq_true rfl) (fun p e s m args below meth c A C hr hlk => ?_)
  have C : Cx p s m args c cX3_kindNamed 1 RX3 ad D (tysW cs) A := C
  have hk_ := tkK_le (σ 5) t i
  have hf_ := tkF_le (T := σ 5) hi
  have ht_ := tkT_le (T := σ 5) hi
  refine r_aload_n (pc := 0) C 0 dX3_kindNamed_0 rfl rfl ?_
  refine r_ldcS (pc := 1) C 4 (by decide) rfl dX3_kindNamed_1 ?_
  refine rc_Vi (pc := 3) C (t_X3_isName' l ad D cs h σ pre post (σ 5) (rfl) (σ 6) (rfl) (σ 7) (rfl) (σ 8) (rfl) (σ 9) (rfl) t i 4 hT ht hb hi h7 h8 h9 (by omega)) mv_X3_isName ml_RX3_95 rfl ⟨Nat.le_of_ble_eq_true rfl, Nat.le_of_ble_eq_true rfl⟩ ⟨rfl, rfl⟩ (q0 := 33) rfl rfl rfl rfl rfl rfl (Nat.le_of_ble_eq_true rfl) dX3_kindNamed_3 ?_
  refine r_if_eq (pc := 6) C 13 dX3_kindNamed_6 (by decide) (fun c_1 => ?_) (fun c_1 => ?_)
  · skip
    have c_1 := bI_0.mp c_1
    refine r_aload_n (pc := 13) C 0 dX3_kindNamed_13 rfl rfl ?_
    refine r_ldcS (pc := 14) C 5 (by decide) rfl dX3_kindNamed_14 ?_
    refine rc_Vi (pc := 16) C (t_X3_isName' l ad D cs h σ pre post (σ 5) (rfl) (σ 6) (rfl) (σ 7) (rfl) (σ 8) (rfl) (σ 9) (rfl) t i 5 hT ht hb hi h7 h8 h9 (by omega)) mv_X3_isName ml_RX3_95 rfl ⟨Nat.le_of_ble_eq_true rfl, Nat.le_of_ble_eq_true rfl⟩ ⟨rfl, rfl⟩ (q0 := 33) rfl rfl rfl rfl rfl rfl (Nat.le_of_ble_eq_true rfl) dX3_kindNamed_16 ?_
    refine r_if_eq (pc := 19) C 26 dX3_kindNamed_19 (by decide) (fun c_2 => ?_) (fun c_2 => ?_)
    · skip
      have c_2 := bI_0.mp c_2
      refine r_aload_n (pc := 26) C 0 dX3_kindNamed_26 rfl rfl ?_
      refine r_ldcS (pc := 27) C 6 (by decide) rfl dX3_kindNamed_27 ?_
      refine rc_Vi (pc := 29) C (t_X3_isName' l ad D cs h σ pre post (σ 5) (rfl) (σ 6) (rfl) (σ 7) (rfl) (σ 8) (rfl) (σ 9) (rfl) t i 6 hT ht hb hi h7 h8 h9 (by omega)) mv_X3_isName ml_RX3_95 rfl ⟨Nat.le_of_ble_eq_true rfl, Nat.le_of_ble_eq_true rfl⟩ ⟨rfl, rfl⟩ (q0 := 33) rfl rfl rfl rfl rfl rfl (Nat.le_of_ble_eq_true rfl) dX3_kindNamed_29 ?_
      refine r_if_eq (pc := 32) C 39 dX3_kindNamed_32 (by decide) (fun c_3 => ?_) (fun c_3 => ?_)
      · skip
        have c_3 := bI_0.mp c_3
        refine r_aload_n (pc := 39) C 0 dX3_kindNamed_39 rfl rfl ?_
        refine r_ldcS (pc := 40) C 7 (by decide) rfl dX3_kindNamed_40 ?_
        refine rc_Vi (pc := 42) C (t_X3_isName' l ad D cs h σ pre post (σ 5) (rfl) (σ 6) (rfl) (σ 7) (rfl) (σ 8) (rfl) (σ 9) (rfl) t i 7 hT ht hb hi h7 h8 h9 (by omega)) mv_X3_isName ml_RX3_95 rfl ⟨Nat.le_of_ble_eq_true rfl, Nat.le_of_ble_eq_true rfl⟩ ⟨rfl, rfl⟩ (q0 := 33) rfl rfl rfl rfl rfl rfl (Nat.le_of_ble_eq_true rfl) dX3_kindNamed_42 ?_
        refine r_if_eq (pc := 45) C 52 dX3_kindNamed_45 (by decide) (fun c_4 => ?_) (fun c_4 => ?_)
        · skip
          have c_4 := bI_0.mp c_4
          refine r_aload_n (pc := 52) C 0 dX3_kindNamed_52 rfl rfl ?_
          refine r_ldcS (pc := 53) C 8 (by decide) rfl dX3_kindNamed_53 ?_
          refine rc_Vi (pc := 55) C (t_X3_isName' l ad D cs h σ pre post (σ 5) (rfl) (σ 6) (rfl) (σ 7) (rfl) (σ 8) (rfl) (σ 9) (rfl) t i 8 hT ht hb hi h7 h8 h9 (by omega)) mv_X3_isName ml_RX3_95 rfl ⟨Nat.le_of_ble_eq_true rfl, Nat.le_of_ble_eq_true rfl⟩ ⟨rfl, rfl⟩ (q0 := 33) rfl rfl rfl rfl rfl rfl (Nat.le_of_ble_eq_true rfl) dX3_kindNamed_55 ?_
          refine r_if_eq (pc := 58) C 65 dX3_kindNamed_58 (by decide) (fun c_5 => ?_) (fun c_5 => ?_)
          · skip
            have c_5 := bI_0.mp c_5
            refine r_aload_n (pc := 65) C 0 dX3_kindNamed_65 rfl rfl ?_
            refine r_ldcS (pc := 66) C 9 (by decide) rfl dX3_kindNamed_66 ?_
            refine rc_Vi (pc := 68) C (t_X3_isName' l ad D cs h σ pre post (σ 5) (rfl) (σ 6) (rfl) (σ 7) (rfl) (σ 8) (rfl) (σ 9) (rfl) t i 9 hT ht hb hi h7 h8 h9 (by omega)) mv_X3_isName ml_RX3_95 rfl ⟨Nat.le_of_ble_eq_true rfl, Nat.le_of_ble_eq_true rfl⟩ ⟨rfl, rfl⟩ (q0 := 33) rfl rfl rfl rfl rfl rfl (Nat.le_of_ble_eq_true rfl) dX3_kindNamed_68 ?_
            refine r_if_eq (pc := 71) C 78 dX3_kindNamed_71 (by decide) (fun c_6 => ?_) (fun c_6 => ?_)
            · skip
              have c_6 := bI_0.mp c_6
              refine r_iconst (pc := 78) C (-1) dX3_kindNamed_78 (by decide) ?_
              exact r_iret (pc := 79) C hr hlk dX3_kindNamed_79 rfl (by simp [kiC, *]) rfl
            · skip
              have c_6 := bI_n.mp c_6
              refine r_iconst (pc := 74) C 5 dX3_kindNamed_74 (by decide) ?_
              refine r_goto (pc := 75) C 79 dX3_kindNamed_75 (by decide) ?_
              exact r_iret (pc := 79) C hr hlk dX3_kindNamed_79 rfl (by simp [kiC, *]) rfl
          · skip
            have c_5 := bI_n.mp c_5
            refine r_iconst (pc := 61) C 4 dX3_kindNamed_61 (by decide) ?_
            refine r_goto (pc := 62) C 79 dX3_kindNamed_62 (by decide) ?_
            exact r_iret (pc := 79) C hr hlk dX3_kindNamed_79 rfl (by simp [kiC, *]) rfl
        · skip
          have c_4 := bI_n.mp c_4
          refine r_iconst (pc := 48) C 3 dX3_kindNamed_48 (by decide) ?_
          refine r_goto (pc := 49) C 79 dX3_kindNamed_49 (by decide) ?_
          exact r_iret (pc := 79) C hr hlk dX3_kindNamed_79 rfl (by simp [kiC, *]) rfl
      · skip
        have c_3 := bI_n.mp c_3
        refine r_iconst (pc := 35) C 2 dX3_kindNamed_35 (by decide) ?_
        refine r_goto (pc := 36) C 79 dX3_kindNamed_36 (by decide) ?_
        exact r_iret (pc := 79) C hr hlk dX3_kindNamed_79 rfl (by simp [kiC, *]) rfl
    · skip
      have c_2 := bI_n.mp c_2
      refine r_iconst (pc := 22) C 1 dX3_kindNamed_22 (by decide) ?_
      refine r_goto (pc := 23) C 79 dX3_kindNamed_23 (by decide) ?_
      exact r_iret (pc := 79) C hr hlk dX3_kindNamed_79 rfl (by simp [kiC, *]) rfl
  · skip
    have c_1 := bI_n.mp c_1
    refine r_iconst (pc := 9) C 0 dX3_kindNamed_9 (by decide) ?_
    refine r_goto (pc := 10) C 79 dX3_kindNamed_10 (by decide) ?_
    exact r_iret (pc := 79) C hr hlk dX3_kindNamed_79 rfl (by simp [kiC, *]) rfl
theorem t_X3_kindNamed' (l : Launch) (ad : Nat → Nat) (D : va_G) (cs : Nat → ClassId) (h : Nat → Nat) (σ : Nat → Nat → Int32) (pre post : va_W) (f5_ : Nat → Int32) (e5_ : σ 5 = f5_) (f6_ : Nat → Int32) (e6_ : σ 6 = f6_) (f7_ : Nat → Int32) (e7_ : σ 7 = f7_) (f8_ : Nat → Int32) (e8_ : σ 8 = f8_) (f9_ : Nat → Int32) (e9_ : σ 9 = f9_) (t i : Nat) (hT : f6_ 0 = nI t) (ht : t ≤ 200) (hb : ∀ j : Nat, j < t → 0 ≤ (f5_ j).toInt ∧ (f5_ j).toInt ≤ 255) (hi : i ≤ t) (h7 : f7_ 0 = nI (tkK (f5_) t i)) (h8 : f8_ 0 = nI (tkF (f5_) t i)) (h9 : f9_ 0 = nI (tkT (f5_) t i)) : CTi l yX3_kindNamed cX3_kindNamed 1 .int ({ frames := 6, cells := 0, slots := 0, locals := 128 }) ad D (tysW cs) (pre ++ (wX cs h σ ++ post)) [.ref (h 33)] (kiC (f5_) t i) (pre ++ (wX cs h σ ++ post)) := by
  subst e5_; subst e6_; subst e7_; subst e8_; subst e9_
  exact t_X3_kindNamed l ad D cs h σ pre post t i hT ht hb hi h7 h8 h9
