theorem dX6_isAlpha_0 : decode cX6_isAlpha 0 = .ok (.iload_n 0, 1) := by decide +kernel
theorem dX6_isAlpha_1 : decode cX6_isAlpha 1 = .ok (.bipush 97, 2) := by decide +kernel
theorem dX6_isAlpha_3 : decode cX6_isAlpha 3 = .ok (.if_icmp .lt 13, 3) := by decide +kernel
theorem dX6_isAlpha_6 : decode cX6_isAlpha 6 = .ok (.iload_n 0, 1) := by decide +kernel
theorem dX6_isAlpha_7 : decode cX6_isAlpha 7 = .ok (.bipush 122, 2) := by decide +kernel
theorem dX6_isAlpha_9 : decode cX6_isAlpha 9 = .ok (.if_icmp .gt 7, 3) := by decide +kernel
theorem dX6_isAlpha_12 : decode cX6_isAlpha 12 = .ok (.iconst 1, 1) := by decide +kernel
theorem dX6_isAlpha_13 : decode cX6_isAlpha 13 = .ok (.goto 4, 3) := by decide +kernel
theorem dX6_isAlpha_16 : decode cX6_isAlpha 16 = .ok (.iconst 0, 1) := by decide +kernel
theorem dX6_isAlpha_17 : decode cX6_isAlpha 17 = .ok (.ireturn, 1) := by decide +kernel
set_option maxHeartbeats 400000 in
set_option maxRecDepth 20000 in
theorem t_X6_isAlpha (l : Launch) (ad : Nat → Nat) (D : va_G) (tys : List (ClassId × FieldType)) (bk : va_W) (pre post : va_W) (x : Int32)  : CTi l yX6_isAlpha cX6_isAlpha 1 .boolean ({ frames := 0, cells := 0, slots := 0, locals := 0 }) ad D tys (pre ++ (bk ++ post)) [.int x] (bI (alB x = true)) (pre ++ (bk ++ post)) := by
  refine CTi.of (lv0 := [(0, .int x)]) (by decide) rfl (Nat.le_of_ble_eq_true rfl) (fun p e s m args below meth c A C hr hlk => ?_)
  have C : Cx p s m args c cX6_isAlpha 1 RX6 ad D tys A := C
  refine r_iload_n (pc := 0) C 0 dX6_isAlpha_0 rfl rfl ?_
  refine r_bipush (pc := 1) C 97 dX6_isAlpha_1 (by decide) ?_
  refine r_icmp_lt (pc := 3) C 16 dX6_isAlpha_3 (by decide) (fun c_1 => ?_) (fun c_1 => ?_)
  · skip
    refine r_iconst (pc := 16) C 0 dX6_isAlpha_16 (by decide) ?_
    exact r_iret (pc := 17) C hr hlk dX6_isAlpha_17 rfl (by simp_all [bI, alB]) rfl
  · skip
    refine r_iload_n (pc := 6) C 0 dX6_isAlpha_6 rfl rfl ?_
    refine r_bipush (pc := 7) C 122 dX6_isAlpha_7 (by decide) ?_
    refine r_icmp_gt (pc := 9) C 16 dX6_isAlpha_9 (by decide) (fun c_2 => ?_) (fun c_2 => ?_)
    · skip
      refine r_iconst (pc := 16) C 0 dX6_isAlpha_16 (by decide) ?_
      exact r_iret (pc := 17) C hr hlk dX6_isAlpha_17 rfl (by simp_all [bI, alB]) rfl
    · skip
      refine r_iconst (pc := 12) C 1 dX6_isAlpha_12 (by decide) ?_
      refine r_goto (pc := 13) C 17 dX6_isAlpha_13 (by decide) ?_
      exact r_iret (pc := 17) C hr hlk dX6_isAlpha_17 rfl (by simp_all [bI, alB]) rfl
theorem dX6_isDigit_0 : decode cX6_isDigit 0 = .ok (.iload_n 0, 1) := by decide +kernel
theorem dX6_isDigit_1 : decode cX6_isDigit 1 = .ok (.bipush 48, 2) := by decide +kernel
theorem dX6_isDigit_3 : decode cX6_isDigit 3 = .ok (.if_icmp .lt 13, 3) := by decide +kernel
theorem dX6_isDigit_6 : decode cX6_isDigit 6 = .ok (.iload_n 0, 1) := by decide +kernel
theorem dX6_isDigit_7 : decode cX6_isDigit 7 = .ok (.bipush 57, 2) := by decide +kernel
theorem dX6_isDigit_9 : decode cX6_isDigit 9 = .ok (.if_icmp .gt 7, 3) := by decide +kernel
theorem dX6_isDigit_12 : decode cX6_isDigit 12 = .ok (.iconst 1, 1) := by decide +kernel
theorem dX6_isDigit_13 : decode cX6_isDigit 13 = .ok (.goto 4, 3) := by decide +kernel
theorem dX6_isDigit_16 : decode cX6_isDigit 16 = .ok (.iconst 0, 1) := by decide +kernel
theorem dX6_isDigit_17 : decode cX6_isDigit 17 = .ok (.ireturn, 1) := by decide +kernel
set_option maxHeartbeats 400000 in
set_option maxRecDepth 20000 in
theorem t_X6_isDigit (l : Launch) (ad : Nat → Nat) (D : va_G) (tys : List (ClassId × FieldType)) (bk : va_W) (pre post : va_W) (x : Int32)  : CTi l yX6_isDigit cX6_isDigit 1 .boolean ({ frames := 0, cells := 0, slots := 0, locals := 0 }) ad D tys (pre ++ (bk ++ post)) [.int x] (bI (dgB x = true)) (pre ++ (bk ++ post)) := by
  refine CTi.of (lv0 := [(0, .int x)]) (by decide) rfl (Nat.le_of_ble_eq_true rfl) (fun p e s m args below meth c A C hr hlk => ?_)
  have C : Cx p s m args c cX6_isDigit 1 RX6 ad D tys A := C
  refine r_iload_n (pc := 0) C 0 dX6_isDigit_0 rfl rfl ?_
  refine r_bipush (pc := 1) C 48 dX6_isDigit_1 (by decide) ?_
  refine r_icmp_lt (pc := 3) C 16 dX6_isDigit_3 (by decide) (fun c_1 => ?_) (fun c_1 => ?_)
  · skip
    refine r_iconst (pc := 16) C 0 dX6_isDigit_16 (by decide) ?_
    exact r_iret (pc := 17) C hr hlk dX6_isDigit_17 rfl (by simp_all [bI, dgB]) rfl
  · skip
    refine r_iload_n (pc := 6) C 0 dX6_isDigit_6 rfl rfl ?_
    refine r_bipush (pc := 7) C 57 dX6_isDigit_7 (by decide) ?_
    refine r_icmp_gt (pc := 9) C 16 dX6_isDigit_9 (by decide) (fun c_2 => ?_) (fun c_2 => ?_)
    · skip
      refine r_iconst (pc := 16) C 0 dX6_isDigit_16 (by decide) ?_
      exact r_iret (pc := 17) C hr hlk dX6_isDigit_17 rfl (by simp_all [bI, dgB]) rfl
    · skip
      refine r_iconst (pc := 12) C 1 dX6_isDigit_12 (by decide) ?_
      refine r_goto (pc := 13) C 17 dX6_isDigit_13 (by decide) ?_
      exact r_iret (pc := 17) C hr hlk dX6_isDigit_17 rfl (by simp_all [bI, dgB]) rfl
theorem dX6_byteAt_0 : decode cX6_byteAt 0 = .ok (.iload_n 1, 1) := by decide +kernel
theorem dX6_byteAt_1 : decode cX6_byteAt 1 = .ok (.aload_n 0, 1) := by decide +kernel
theorem dX6_byteAt_2 : decode cX6_byteAt 2 = .ok (.getfield 61, 3) := by decide +kernel
theorem dX6_byteAt_5 : decode cX6_byteAt 5 = .ok (.if_icmp .ge 12, 3) := by decide +kernel
theorem dX6_byteAt_8 : decode cX6_byteAt 8 = .ok (.aload_n 0, 1) := by decide +kernel
theorem dX6_byteAt_9 : decode cX6_byteAt 9 = .ok (.getfield 22, 3) := by decide +kernel
theorem dX6_byteAt_12 : decode cX6_byteAt 12 = .ok (.iload_n 1, 1) := by decide +kernel
theorem dX6_byteAt_13 : decode cX6_byteAt 13 = .ok (.iaload, 1) := by decide +kernel
theorem dX6_byteAt_14 : decode cX6_byteAt 14 = .ok (.goto 4, 3) := by decide +kernel
theorem dX6_byteAt_17 : decode cX6_byteAt 17 = .ok (.iconst (-1), 1) := by decide +kernel
theorem dX6_byteAt_18 : decode cX6_byteAt 18 = .ok (.ireturn, 1) := by decide +kernel
set_option maxHeartbeats 400000 in
set_option maxRecDepth 20000 in
theorem t_X6_byteAt (l : Launch) (ad : Nat → Nat) (D : va_G) (cs : Nat → ClassId) (h : Nat → Nat) (σ : Nat → Nat → Int32) (pre post : va_W) (t i : Nat) (hT : σ 6 0 = nI t) (ht : t ≤ 200) (hi : i < 300) : CTi l yX6_byteAt cX6_byteAt 2 .int ({ frames := 0, cells := 0, slots := 0, locals := 0 }) ad D (tysW cs) (pre ++ (wM cs h σ ++ post)) [.ref (h 0), .int (nI i)] (bA (σ 5) t i) (pre ++ (wM cs h σ ++ post)) := by
  refine CTi.of (lv0 := [(0, .ref (h 0)), (1, .int (nI i))]) (by decide) rfl (Nat.le_of_ble_eq_true rfl) (fun p e s m args below meth c A C hr hlk => ?_)
  have C : Cx p s m args c cX6_byteAt 2 RX6 ad D (tysW cs) A := C
  refine r_iload_n (pc := 0) C 1 dX6_byteAt_0 rfl rfl ?_
  refine r_aload_n (pc := 1) C 0 dX6_byteAt_1 rfl rfl ?_
  refine mg_taped (pc := 2) C fl_RX6_61 dX6_byteAt_2 (σ 6 0) rfl ?_
  refine r_eqi (y := nI t) (hT) ?_
  refine r_icmp_ge (pc := 5) C 17 dX6_byteAt_5 (by decide) (fun c_1 => ?_) (fun c_1 => ?_)
  · skip
    have c_1 := nIc_ge_t (a := i) (b := t) (by omega) (by omega) c_1
    refine r_iconst (pc := 17) C (-1) dX6_byteAt_17 (by decide) ?_
    exact r_iret (pc := 18) C hr hlk dX6_byteAt_18 rfl (by first | exact (bA_ge ‹_›).symm | exact (bA_lt ‹_›).symm) rfl
  · skip
    have c_1 := nIc_ge_f (a := i) (b := t) (by omega) (by omega) c_1
    refine r_aload_n (pc := 8) C 0 dX6_byteAt_8 rfl rfl ?_
    refine mg_tape (pc := 9) C fl_RX6_22 dX6_byteAt_9 ?_
    refine r_iload_n (pc := 12) C 1 dX6_byteAt_12 rfl rfl ?_
    refine al_tape (pc := 13) C i (rfl) (by omega) dX6_byteAt_13 (σ 5 i) rfl ?_
    refine r_goto (pc := 14) C 18 dX6_byteAt_14 (by decide) ?_
    exact r_iret (pc := 18) C hr hlk dX6_byteAt_18 rfl (by first | exact (bA_ge ‹_›).symm | exact (bA_lt ‹_›).symm) rfl
theorem t_X6_byteAt' (l : Launch) (ad : Nat → Nat) (D : va_G) (cs : Nat → ClassId) (h : Nat → Nat) (σ : Nat → Nat → Int32) (pre post : va_W) (f5_ : Nat → Int32) (e5_ : σ 5 = f5_) (f6_ : Nat → Int32) (e6_ : σ 6 = f6_) (t i : Nat) (hT : f6_ 0 = nI t) (ht : t ≤ 200) (hi : i < 300) : CTi l yX6_byteAt cX6_byteAt 2 .int ({ frames := 0, cells := 0, slots := 0, locals := 0 }) ad D (tysW cs) (pre ++ (wM cs h σ ++ post)) [.ref (h 0), .int (nI i)] (bA (f5_) t i) (pre ++ (wM cs h σ ++ post)) := by
  subst e5_; subst e6_
  exact t_X6_byteAt l ad D cs h σ pre post t i hT ht hi
theorem dX6_nextToken_0 : decode cX6_nextToken 0 = .ok (.aload_n 0, 1) := by decide +kernel
theorem dX6_nextToken_1 : decode cX6_nextToken 1 = .ok (.aload_n 0, 1) := by decide +kernel
theorem dX6_nextToken_2 : decode cX6_nextToken 2 = .ok (.getfield 67, 3) := by decide +kernel
theorem dX6_nextToken_5 : decode cX6_nextToken 5 = .ok (.putfield 70, 3) := by decide +kernel
theorem dX6_nextToken_8 : decode cX6_nextToken 8 = .ok (.aload_n 0, 1) := by decide +kernel
theorem dX6_nextToken_9 : decode cX6_nextToken 9 = .ok (.aload_n 0, 1) := by decide +kernel
theorem dX6_nextToken_10 : decode cX6_nextToken 10 = .ok (.getfield 70, 3) := by decide +kernel
theorem dX6_nextToken_13 : decode cX6_nextToken 13 = .ok (.invokevirtual 73, 3) := by decide +kernel
theorem dX6_nextToken_16 : decode cX6_nextToken 16 = .ok (.bipush 32, 2) := by decide +kernel
theorem dX6_nextToken_18 : decode cX6_nextToken 18 = .ok (.if_icmp .ne 16, 3) := by decide +kernel
theorem dX6_nextToken_21 : decode cX6_nextToken 21 = .ok (.aload_n 0, 1) := by decide +kernel
theorem dX6_nextToken_22 : decode cX6_nextToken 22 = .ok (.dup, 1) := by decide +kernel
theorem dX6_nextToken_23 : decode cX6_nextToken 23 = .ok (.getfield 70, 3) := by decide +kernel
theorem dX6_nextToken_26 : decode cX6_nextToken 26 = .ok (.iconst 1, 1) := by decide +kernel
theorem dX6_nextToken_27 : decode cX6_nextToken 27 = .ok (.iadd, 1) := by decide +kernel
theorem dX6_nextToken_28 : decode cX6_nextToken 28 = .ok (.putfield 70, 3) := by decide +kernel
theorem dX6_nextToken_31 : decode cX6_nextToken 31 = .ok (.goto (-23), 3) := by decide +kernel
theorem dX6_nextToken_34 : decode cX6_nextToken 34 = .ok (.aload_n 0, 1) := by decide +kernel
theorem dX6_nextToken_35 : decode cX6_nextToken 35 = .ok (.aload_n 0, 1) := by decide +kernel
theorem dX6_nextToken_36 : decode cX6_nextToken 36 = .ok (.getfield 70, 3) := by decide +kernel
theorem dX6_nextToken_39 : decode cX6_nextToken 39 = .ok (.putfield 67, 3) := by decide +kernel
theorem dX6_nextToken_42 : decode cX6_nextToken 42 = .ok (.aload_n 0, 1) := by decide +kernel
theorem dX6_nextToken_43 : decode cX6_nextToken 43 = .ok (.aload_n 0, 1) := by decide +kernel
theorem dX6_nextToken_44 : decode cX6_nextToken 44 = .ok (.getfield 70, 3) := by decide +kernel
theorem dX6_nextToken_47 : decode cX6_nextToken 47 = .ok (.invokevirtual 73, 3) := by decide +kernel
theorem dX6_nextToken_50 : decode cX6_nextToken 50 = .ok (.istore_n 1, 1) := by decide +kernel
theorem dX6_nextToken_51 : decode cX6_nextToken 51 = .ok (.aload_n 0, 1) := by decide +kernel
theorem dX6_nextToken_52 : decode cX6_nextToken 52 = .ok (.iload_n 1, 1) := by decide +kernel
theorem dX6_nextToken_53 : decode cX6_nextToken 53 = .ok (.ifCond .ge 7, 3) := by decide +kernel
theorem dX6_nextToken_56 : decode cX6_nextToken 56 = .ok (.iconst 0, 1) := by decide +kernel
theorem dX6_nextToken_57 : decode cX6_nextToken 57 = .ok (.goto 26, 3) := by decide +kernel
theorem dX6_nextToken_60 : decode cX6_nextToken 60 = .ok (.iload_n 1, 1) := by decide +kernel
theorem dX6_nextToken_61 : decode cX6_nextToken 61 = .ok (.invokestatic 77, 3) := by decide +kernel
theorem dX6_nextToken_64 : decode cX6_nextToken 64 = .ok (.ifCond .eq 7, 3) := by decide +kernel
theorem dX6_nextToken_67 : decode cX6_nextToken 67 = .ok (.iconst 1, 1) := by decide +kernel
theorem dX6_nextToken_68 : decode cX6_nextToken 68 = .ok (.goto 15, 3) := by decide +kernel
theorem dX6_nextToken_71 : decode cX6_nextToken 71 = .ok (.iload_n 1, 1) := by decide +kernel
theorem dX6_nextToken_72 : decode cX6_nextToken 72 = .ok (.invokestatic 81, 3) := by decide +kernel
theorem dX6_nextToken_75 : decode cX6_nextToken 75 = .ok (.ifCond .eq 7, 3) := by decide +kernel
theorem dX6_nextToken_78 : decode cX6_nextToken 78 = .ok (.iconst 2, 1) := by decide +kernel
theorem dX6_nextToken_79 : decode cX6_nextToken 79 = .ok (.goto 4, 3) := by decide +kernel
theorem dX6_nextToken_82 : decode cX6_nextToken 82 = .ok (.iconst 3, 1) := by decide +kernel
theorem dX6_nextToken_83 : decode cX6_nextToken 83 = .ok (.putfield 84, 3) := by decide +kernel
theorem dX6_nextToken_86 : decode cX6_nextToken 86 = .ok (.aload_n 0, 1) := by decide +kernel
theorem dX6_nextToken_87 : decode cX6_nextToken 87 = .ok (.iconst 0, 1) := by decide +kernel
theorem dX6_nextToken_88 : decode cX6_nextToken 88 = .ok (.putfield 87, 3) := by decide +kernel
theorem dX6_nextToken_91 : decode cX6_nextToken 91 = .ok (.aload_n 0, 1) := by decide +kernel
theorem dX6_nextToken_92 : decode cX6_nextToken 92 = .ok (.getfield 84, 3) := by decide +kernel
theorem dX6_nextToken_95 : decode cX6_nextToken 95 = .ok (.iconst 1, 1) := by decide +kernel
theorem dX6_nextToken_96 : decode cX6_nextToken 96 = .ok (.if_icmp .ne 30, 3) := by decide +kernel
theorem dX6_nextToken_99 : decode cX6_nextToken 99 = .ok (.aload_n 0, 1) := by decide +kernel
theorem dX6_nextToken_100 : decode cX6_nextToken 100 = .ok (.aload_n 0, 1) := by decide +kernel
theorem dX6_nextToken_101 : decode cX6_nextToken 101 = .ok (.getfield 67, 3) := by decide +kernel
theorem dX6_nextToken_104 : decode cX6_nextToken 104 = .ok (.invokevirtual 73, 3) := by decide +kernel
theorem dX6_nextToken_107 : decode cX6_nextToken 107 = .ok (.invokestatic 77, 3) := by decide +kernel
theorem dX6_nextToken_110 : decode cX6_nextToken 110 = .ok (.ifCond .eq 16, 3) := by decide +kernel
theorem dX6_nextToken_113 : decode cX6_nextToken 113 = .ok (.aload_n 0, 1) := by decide +kernel
theorem dX6_nextToken_114 : decode cX6_nextToken 114 = .ok (.dup, 1) := by decide +kernel
theorem dX6_nextToken_115 : decode cX6_nextToken 115 = .ok (.getfield 67, 3) := by decide +kernel
theorem dX6_nextToken_118 : decode cX6_nextToken 118 = .ok (.iconst 1, 1) := by decide +kernel
theorem dX6_nextToken_119 : decode cX6_nextToken 119 = .ok (.iadd, 1) := by decide +kernel
theorem dX6_nextToken_120 : decode cX6_nextToken 120 = .ok (.putfield 67, 3) := by decide +kernel
theorem dX6_nextToken_123 : decode cX6_nextToken 123 = .ok (.goto (-32), 3) := by decide +kernel
theorem dX6_nextToken_126 : decode cX6_nextToken 126 = .ok (.aload_n 0, 1) := by decide +kernel
theorem dX6_nextToken_127 : decode cX6_nextToken 127 = .ok (.getfield 84, 3) := by decide +kernel
theorem dX6_nextToken_130 : decode cX6_nextToken 130 = .ok (.iconst 2, 1) := by decide +kernel
theorem dX6_nextToken_131 : decode cX6_nextToken 131 = .ok (.if_icmp .ne 70, 3) := by decide +kernel
theorem dX6_nextToken_134 : decode cX6_nextToken 134 = .ok (.aload_n 0, 1) := by decide +kernel
theorem dX6_nextToken_135 : decode cX6_nextToken 135 = .ok (.aload_n 0, 1) := by decide +kernel
theorem dX6_nextToken_136 : decode cX6_nextToken 136 = .ok (.getfield 67, 3) := by decide +kernel
theorem dX6_nextToken_139 : decode cX6_nextToken 139 = .ok (.invokevirtual 73, 3) := by decide +kernel
theorem dX6_nextToken_142 : decode cX6_nextToken 142 = .ok (.invokestatic 81, 3) := by decide +kernel
theorem dX6_nextToken_145 : decode cX6_nextToken 145 = .ok (.ifCond .eq 56, 3) := by decide +kernel
theorem dX6_nextToken_148 : decode cX6_nextToken 148 = .ok (.aload_n 0, 1) := by decide +kernel
theorem dX6_nextToken_149 : decode cX6_nextToken 149 = .ok (.aload_n 0, 1) := by decide +kernel
theorem dX6_nextToken_150 : decode cX6_nextToken 150 = .ok (.getfield 87, 3) := by decide +kernel
theorem dX6_nextToken_153 : decode cX6_nextToken 153 = .ok (.sipush 999, 3) := by decide +kernel
theorem dX6_nextToken_156 : decode cX6_nextToken 156 = .ok (.if_icmp .le 10, 3) := by decide +kernel
theorem dX6_nextToken_159 : decode cX6_nextToken 159 = .ok (.aload_n 0, 1) := by decide +kernel
theorem dX6_nextToken_160 : decode cX6_nextToken 160 = .ok (.getfield 87, 3) := by decide +kernel
theorem dX6_nextToken_163 : decode cX6_nextToken 163 = .ok (.goto 22, 3) := by decide +kernel
theorem dX6_nextToken_166 : decode cX6_nextToken 166 = .ok (.bipush 10, 2) := by decide +kernel
theorem dX6_nextToken_168 : decode cX6_nextToken 168 = .ok (.aload_n 0, 1) := by decide +kernel
theorem dX6_nextToken_169 : decode cX6_nextToken 169 = .ok (.getfield 87, 3) := by decide +kernel
theorem dX6_nextToken_172 : decode cX6_nextToken 172 = .ok (.imul, 1) := by decide +kernel
theorem dX6_nextToken_173 : decode cX6_nextToken 173 = .ok (.aload_n 0, 1) := by decide +kernel
theorem dX6_nextToken_174 : decode cX6_nextToken 174 = .ok (.aload_n 0, 1) := by decide +kernel
theorem dX6_nextToken_175 : decode cX6_nextToken 175 = .ok (.getfield 67, 3) := by decide +kernel
theorem dX6_nextToken_178 : decode cX6_nextToken 178 = .ok (.invokevirtual 73, 3) := by decide +kernel
theorem dX6_nextToken_181 : decode cX6_nextToken 181 = .ok (.iadd, 1) := by decide +kernel
theorem dX6_nextToken_182 : decode cX6_nextToken 182 = .ok (.bipush 48, 2) := by decide +kernel
theorem dX6_nextToken_184 : decode cX6_nextToken 184 = .ok (.isub, 1) := by decide +kernel
theorem dX6_nextToken_185 : decode cX6_nextToken 185 = .ok (.putfield 87, 3) := by decide +kernel
theorem dX6_nextToken_188 : decode cX6_nextToken 188 = .ok (.aload_n 0, 1) := by decide +kernel
theorem dX6_nextToken_189 : decode cX6_nextToken 189 = .ok (.dup, 1) := by decide +kernel
theorem dX6_nextToken_190 : decode cX6_nextToken 190 = .ok (.getfield 67, 3) := by decide +kernel
theorem dX6_nextToken_193 : decode cX6_nextToken 193 = .ok (.iconst 1, 1) := by decide +kernel
theorem dX6_nextToken_194 : decode cX6_nextToken 194 = .ok (.iadd, 1) := by decide +kernel
theorem dX6_nextToken_195 : decode cX6_nextToken 195 = .ok (.putfield 67, 3) := by decide +kernel
theorem dX6_nextToken_198 : decode cX6_nextToken 198 = .ok (.goto (-72), 3) := by decide +kernel
theorem dX6_nextToken_201 : decode cX6_nextToken 201 = .ok (.aload_n 0, 1) := by decide +kernel
theorem dX6_nextToken_202 : decode cX6_nextToken 202 = .ok (.dup, 1) := by decide +kernel
theorem dX6_nextToken_203 : decode cX6_nextToken 203 = .ok (.getfield 67, 3) := by decide +kernel
theorem dX6_nextToken_206 : decode cX6_nextToken 206 = .ok (.aload_n 0, 1) := by decide +kernel
theorem dX6_nextToken_207 : decode cX6_nextToken 207 = .ok (.getfield 84, 3) := by decide +kernel
theorem dX6_nextToken_210 : decode cX6_nextToken 210 = .ok (.iconst 2, 1) := by decide +kernel
theorem dX6_nextToken_211 : decode cX6_nextToken 211 = .ok (.if_icmp .le 7, 3) := by decide +kernel
theorem dX6_nextToken_214 : decode cX6_nextToken 214 = .ok (.iconst 1, 1) := by decide +kernel
theorem dX6_nextToken_215 : decode cX6_nextToken 215 = .ok (.goto 4, 3) := by decide +kernel
theorem dX6_nextToken_218 : decode cX6_nextToken 218 = .ok (.iconst 0, 1) := by decide +kernel
theorem dX6_nextToken_219 : decode cX6_nextToken 219 = .ok (.iadd, 1) := by decide +kernel
theorem dX6_nextToken_220 : decode cX6_nextToken 220 = .ok (.putfield 67, 3) := by decide +kernel
theorem dX6_nextToken_223 : decode cX6_nextToken 223 = .ok (.return_, 1) := by decide +kernel
set_option maxHeartbeats 400000 in
set_option maxRecDepth 20000 in
theorem t_X6_nextToken (l : Launch) (ad : Nat → Nat) (D : va_G) (cs : Nat → ClassId) (h : Nat → Nat) (σ : Nat → Nat → Int32) (pre post : va_W) (t i : Nat) (hT : σ 6 0 = nI t) (ht : t ≤ 200) (h9 : σ 9 0 = nI i) (hi : i ≤ t) : CTv l yX6_nextToken cX6_nextToken 2 ({ frames := 1, cells := 0, slots := 0, locals := 21 }) ad D (tysW cs) (pre ++ (wM cs h σ ++ post)) [.ref (h 0)] (pre ++ (wM cs h (su (su (su (su σ 7 (fun _ => nI (tkK (σ 5) t i))) 8 (fun _ => nI (tkF (σ 5) t i))) 9 (fun _ => nI (tkT (σ 5) t i))) 10 (fun _ => tkV (σ 5) t i)) ++ post)) := by
  refine CTv.of (lv0 := [(0, .ref (h 0))]) (by decide) rfl (Nat.le_of_ble_eq_true rfl) (fun p e s m args below meth c A C hr hlk => ?_)
  have C : Cx p s m args c cX6_nextToken 2 RX6 ad D (tysW cs) A := C
  refine r_aload_n (pc := 0) C 0 dX6_nextToken_0 rfl rfl ?_
  refine r_aload_n (pc := 1) C 0 dX6_nextToken_1 rfl rfl ?_
  refine mg_to (pc := 2) C fl_RX6_67 dX6_nextToken_2 (σ 9 0) rfl ?_
  refine r_eqi (y := nI i) (h9) ?_
  refine mp_from (pc := 5) C fl_RX6_70 dX6_nextToken_5 ?_
  refine r_pick (lv' := [(0, .ref (h 0))]) [0] rfl ?_
  refine r_loop (blkf := fun pp => wM cs h (su σ 8 (fun _ => nI pp))) (lvf := fun pp => [(0, .ref (h 0))]) (fun pp => tkF (σ 5) t i = endF (spP (σ 5)) (t - pp) pp) t i (by omega) (rfl) (fun pp h_pp hx ih => ?_)
  show VX p l e _ s m args below meth c _ D A 2 pre (wM cs h (su σ 8 (fun _ => nI pp))) post 8 [(0, .ref (h 0))] []
  refine r_aload_n (pc := 8) C 0 dX6_nextToken_8 rfl rfl ?_
  refine r_aload_n (pc := 9) C 0 dX6_nextToken_9 rfl rfl ?_
  refine mg_from (pc := 10) C fl_RX6_70 dX6_nextToken_10 (nI pp) (congrFun (su_at) 0) ?_
  refine rc_Vi (pc := 13) C (t_X6_byteAt' l ad D cs h (su σ 8 (fun _ => nI pp)) pre post (σ 5) ((su_nn (by decide))) (σ 6) ((su_nn (by decide))) t pp hT ht (by omega)) mv_X6_byteAt ml_RX6_73 rfl ⟨Nat.le_of_ble_eq_true rfl, Nat.le_of_ble_eq_true rfl⟩ ⟨rfl, rfl⟩ (q0 := 0) rfl rfl rfl rfl rfl rfl (Nat.le_of_ble_eq_true rfl) dX6_nextToken_13 ?_
  refine r_bipush (pc := 16) C 32 dX6_nextToken_16 (by decide) ?_
  refine r_icmp_ne (pc := 18) C 34 dX6_nextToken_18 (by decide) (fun c_1 => ?_) (fun c_1 => ?_)
  · skip
    have hF : tkF (σ 5) t i = pp := hx.trans (en_stop (sp_no c_1))
    refine r_blk (blk' := wM cs h (su σ 8 (fun _ => nI (tkF (σ 5) t i)))) (by rw [show (fun _ => nI (tkF (σ 5) t i) : Nat → Int32) = fun _ => nI pp from Eq.symm (by rw [hF])] <;> rfl) ?_
    have hf1 := tkF_le (T := σ 5) hi
    clear hF hx
    refine r_aload_n (pc := 34) C 0 dX6_nextToken_34 rfl rfl ?_
    refine r_aload_n (pc := 35) C 0 dX6_nextToken_35 rfl rfl ?_
    refine mg_from (pc := 36) C fl_RX6_70 dX6_nextToken_36 (nI (tkF (σ 5) t i)) (congrFun (su_at) 0) ?_
    refine mp_to (pc := 39) C fl_RX6_67 dX6_nextToken_39 ?_
    refine r_aload_n (pc := 42) C 0 dX6_nextToken_42 rfl rfl ?_
    refine r_aload_n (pc := 43) C 0 dX6_nextToken_43 rfl rfl ?_
    refine mg_from (pc := 44) C fl_RX6_70 dX6_nextToken_44 (nI (tkF (σ 5) t i)) (congrFun ((su_nn (by decide)).trans su_at) 0) ?_
    refine rc_Vi (pc := 47) C (t_X6_byteAt' l ad D cs h (su (su σ 8 (fun _ => nI (tkF (σ 5) t i))) 9 (fun _ => nI (tkF (σ 5) t i))) pre post (σ 5) (((su_nn (by decide)).trans (su_nn (by decide)))) (σ 6) (((su_nn (by decide)).trans (su_nn (by decide)))) t (tkF (σ 5) t i) hT ht (by omega)) mv_X6_byteAt ml_RX6_73 rfl ⟨Nat.le_of_ble_eq_true rfl, Nat.le_of_ble_eq_true rfl⟩ ⟨rfl, rfl⟩ (q0 := 0) rfl rfl rfl rfl rfl rfl (Nat.le_of_ble_eq_true rfl) dX6_nextToken_47 ?_
    refine r_istore_n (pc := 50) C [(1, .int (bA (σ 5) t (tkF (σ 5) t i))), (0, .ref (h 0))] dX6_nextToken_50 rfl (by decide) rfl ?_
    refine r_aload_n (pc := 51) C 1 dX6_nextToken_51 rfl rfl ?_
    refine r_iload_n (pc := 52) C 0 dX6_nextToken_52 rfl rfl ?_
    refine r_if_ge (pc := 53) C 60 dX6_nextToken_53 (by decide) (fun c_2 => ?_) (fun c_2 => ?_)
    · skip
      refine r_iload_n (pc := 60) C 0 dX6_nextToken_60 rfl rfl ?_
      refine rc_Si (pc := 61) C (t_X6_isAlpha l ad D (tysW cs) (wM cs h (su (su σ 8 (fun _ => nI (tkF (σ 5) t i))) 9 (fun _ => nI (tkF (σ 5) t i)))) pre post  (bA (σ 5) t (tkF (σ 5) t i)) ) ms_X6_isAlpha ml_RX6_77 rfl ⟨Nat.le_of_ble_eq_true rfl, Nat.le_of_ble_eq_true rfl⟩ ⟨rfl, rfl⟩ rfl rfl rfl (Nat.le_of_ble_eq_true rfl) dX6_nextToken_61 ?_
      refine r_if_eq (pc := 64) C 71 dX6_nextToken_64 (by decide) (fun c_3 => ?_) (fun c_3 => ?_)
      · skip
        have c_3 := bI_0.mp c_3
        refine r_iload_n (pc := 71) C 0 dX6_nextToken_71 rfl rfl ?_
        refine rc_Si (pc := 72) C (t_X6_isDigit l ad D (tysW cs) (wM cs h (su (su σ 8 (fun _ => nI (tkF (σ 5) t i))) 9 (fun _ => nI (tkF (σ 5) t i)))) pre post  (bA (σ 5) t (tkF (σ 5) t i)) ) ms_X6_isDigit ml_RX6_81 rfl ⟨Nat.le_of_ble_eq_true rfl, Nat.le_of_ble_eq_true rfl⟩ ⟨rfl, rfl⟩ rfl rfl rfl (Nat.le_of_ble_eq_true rfl) dX6_nextToken_72 ?_
        refine r_if_eq (pc := 75) C 82 dX6_nextToken_75 (by decide) (fun c_4 => ?_) (fun c_4 => ?_)
        · skip
          have c_4 := bI_0.mp c_4
          refine r_iconst (pc := 82) C 3 dX6_nextToken_82 (by decide) ?_
          refine mp_token (pc := 83) C fl_RX6_84 dX6_nextToken_83 ?_
          refine r_blk (blk' := wM cs h (su (su (su σ 7 (fun _ => 3)) 8 (fun _ => nI (tkF (σ 5) t i))) 9 (fun _ => nI (tkF (σ 5) t i)))) (congrArg (wM cs h) (by rw [su_cm (k := 9) (j := 7) (by decide), su_cm (k := 8) (j := 7) (by decide)])) ?_
          refine r_aload_n (pc := 86) C 1 dX6_nextToken_86 rfl rfl ?_
          refine r_iconst (pc := 87) C 0 dX6_nextToken_87 (by decide) ?_
          refine mp_value (pc := 88) C fl_RX6_87 dX6_nextToken_88 ?_
          refine r_aload_n (pc := 91) C 1 dX6_nextToken_91 rfl rfl ?_
          refine mg_token (pc := 92) C fl_RX6_84 dX6_nextToken_92 3 (congrFun ((((su_nn (by decide)).trans (su_nn (by decide))).trans (su_nn (by decide))).trans su_at) 0) ?_
          refine r_iconst (pc := 95) C 1 dX6_nextToken_95 (by decide) ?_
          refine r_icmp_ne (pc := 96) C 126 dX6_nextToken_96 (by decide) (fun c_5 => ?_) (fun c_5 => ?_)
          · skip
            revert c_5; intro c_5
            refine r_aload_n (pc := 126) C 1 dX6_nextToken_126 rfl rfl ?_
            refine mg_token (pc := 127) C fl_RX6_84 dX6_nextToken_127 3 (congrFun ((((su_nn (by decide)).trans (su_nn (by decide))).trans (su_nn (by decide))).trans su_at) 0) ?_
            refine r_iconst (pc := 130) C 2 dX6_nextToken_130 (by decide) ?_
            refine r_icmp_ne (pc := 131) C 201 dX6_nextToken_131 (by decide) (fun c_6 => ?_) (fun c_6 => ?_)
            · skip
              revert c_6; intro c_6
              refine r_aload_n (pc := 201) C 1 dX6_nextToken_201 rfl rfl ?_
              refine r_dup (pc := 202) C dX6_nextToken_202 rfl ?_
              refine mg_to (pc := 203) C fl_RX6_67 dX6_nextToken_203 (nI (tkF (σ 5) t i)) (congrFun ((su_nn (by decide)).trans su_at) 0) ?_
              refine r_aload_n (pc := 206) C 1 dX6_nextToken_206 rfl rfl ?_
              refine mg_token (pc := 207) C fl_RX6_84 dX6_nextToken_207 3 (congrFun ((((su_nn (by decide)).trans (su_nn (by decide))).trans (su_nn (by decide))).trans su_at) 0) ?_
              refine r_iconst (pc := 210) C 2 dX6_nextToken_210 (by decide) ?_
              refine r_icmp_le (pc := 211) C 218 dX6_nextToken_211 (by decide) (fun c_7 => ?_) (fun c_7 => ?_)
              · skip
                revert c_7; intro c_7
                exact absurd c_7 (by decide)
              · skip
                revert c_7; intro c_7
                refine r_iconst (pc := 214) C 1 dX6_nextToken_214 (by decide) ?_
                refine r_goto (pc := 215) C 219 dX6_nextToken_215 (by decide) ?_
                refine r_iadd (pc := 219) C dX6_nextToken_219 ?_
                refine r_eqi (y := nI (tkF (σ 5) t i + 1)) (nI_add (tkF (σ 5) t i) 1) ?_
                refine mp_to (pc := 220) C fl_RX6_67 dX6_nextToken_220 ?_
                refine r_blk (blk' := wM cs h (su (su (su (su σ 7 (fun _ => 3)) 8 (fun _ => nI (tkF (σ 5) t i))) 9 (fun _ => nI (tkF (σ 5) t i + 1))) 10 (fun _ => 0))) (congrArg (wM cs h) (by rw [su_cm (k := 10) (j := 9) (by decide), su_su])) ?_
                have hK : tkK (σ 5) t i = 3 := by simp [tkK, *]
                have hTT : tkT (σ 5) t i = tkF (σ 5) t i + 1 := by rw [tkT, if_neg (by omega), if_neg (by omega), if_pos hK]
                have hVV : tkV (σ 5) t i = 0 := if_neg (by omega)
                exact r_vret (pc := 223) C hr hlk dX6_nextToken_223 (by rw [hK, hTT, hVV] <;> rfl)
            · skip
              revert c_6; intro c_6
              exact absurd c_6 (by decide)
          · skip
            revert c_5; intro c_5
            exact absurd c_5 (by decide)
        · skip
          have c_4 := bI_n.mp c_4
          refine r_iconst (pc := 78) C 2 dX6_nextToken_78 (by decide) ?_
          refine r_goto (pc := 79) C 83 dX6_nextToken_79 (by decide) ?_
          refine mp_token (pc := 83) C fl_RX6_84 dX6_nextToken_83 ?_
          refine r_blk (blk' := wM cs h (su (su (su σ 7 (fun _ => 2)) 8 (fun _ => nI (tkF (σ 5) t i))) 9 (fun _ => nI (tkF (σ 5) t i)))) (congrArg (wM cs h) (by rw [su_cm (k := 9) (j := 7) (by decide), su_cm (k := 8) (j := 7) (by decide)])) ?_
          refine r_aload_n (pc := 86) C 1 dX6_nextToken_86 rfl rfl ?_
          refine r_iconst (pc := 87) C 0 dX6_nextToken_87 (by decide) ?_
          refine mp_value (pc := 88) C fl_RX6_87 dX6_nextToken_88 ?_
          refine r_aload_n (pc := 91) C 1 dX6_nextToken_91 rfl rfl ?_
          refine mg_token (pc := 92) C fl_RX6_84 dX6_nextToken_92 2 (congrFun ((((su_nn (by decide)).trans (su_nn (by decide))).trans (su_nn (by decide))).trans su_at) 0) ?_
          refine r_iconst (pc := 95) C 1 dX6_nextToken_95 (by decide) ?_
          refine r_icmp_ne (pc := 96) C 126 dX6_nextToken_96 (by decide) (fun c_8 => ?_) (fun c_8 => ?_)
          · skip
            revert c_8; intro c_8
            refine r_pick (lv' := [(0, .ref (h 0)), (1, .int (bA (σ 5) t (tkF (σ 5) t i)))]) [1, 0] rfl ?_
            refine r_blk (blk' := wM cs h (su (su (su (su σ 7 (fun _ => 2)) 8 (fun _ => nI (tkF (σ 5) t i))) 9 (fun _ => nI (tkF (σ 5) t i + 0))) 10 (fun _ => vF (σ 5) (tkF (σ 5) t i) 0))) (rfl) ?_
            refine r_loop (blkf := fun q => wM cs h (su (su (su (su σ 7 (fun _ => 2)) 8 (fun _ => nI (tkF (σ 5) t i))) 9 (fun _ => nI (tkF (σ 5) t i + q))) 10 (fun _ => vF (σ 5) (tkF (σ 5) t i) q))) (lvf := fun q => [(0, .ref (h 0)), (1, .int (bA (σ 5) t (tkF (σ 5) t i)))]) (fun q => endF (dgP (σ 5)) (t - tkF (σ 5) t i) (tkF (σ 5) t i) = endF (dgP (σ 5)) (t - (tkF (σ 5) t i + q)) (tkF (σ 5) t i + q)) (t - tkF (σ 5) t i) 0 (by omega) (rfl) (fun q h_q hx ih => ?_)
            show VX p l e _ s m args below meth c _ D A 2 pre (wM cs h (su (su (su (su σ 7 (fun _ => 2)) 8 (fun _ => nI (tkF (σ 5) t i))) 9 (fun _ => nI (tkF (σ 5) t i + q))) 10 (fun _ => vF (σ 5) (tkF (σ 5) t i) q))) post 126 [(0, .ref (h 0)), (1, .int (bA (σ 5) t (tkF (σ 5) t i)))] []
            refine r_aload_n (pc := 126) C 0 dX6_nextToken_126 rfl rfl ?_
            refine mg_token (pc := 127) C fl_RX6_84 dX6_nextToken_127 2 (congrFun ((((su_nn (by decide)).trans (su_nn (by decide))).trans (su_nn (by decide))).trans su_at) 0) ?_
            refine r_iconst (pc := 130) C 2 dX6_nextToken_130 (by decide) ?_
            refine r_icmp_ne (pc := 131) C 201 dX6_nextToken_131 (by decide) (fun c_9 => ?_) (fun c_9 => ?_)
            · skip
              revert c_9; intro c_9
              exact absurd c_9 (by decide)
            · skip
              revert c_9; intro c_9
              refine r_aload_n (pc := 134) C 0 dX6_nextToken_134 rfl rfl ?_
              refine r_aload_n (pc := 135) C 0 dX6_nextToken_135 rfl rfl ?_
              refine mg_to (pc := 136) C fl_RX6_67 dX6_nextToken_136 (nI (tkF (σ 5) t i + q)) (congrFun ((su_nn (by decide)).trans su_at) 0) ?_
              refine rc_Vi (pc := 139) C (t_X6_byteAt' l ad D cs h (su (su (su (su σ 7 (fun _ => 2)) 8 (fun _ => nI (tkF (σ 5) t i))) 9 (fun _ => nI (tkF (σ 5) t i + q))) 10 (fun _ => vF (σ 5) (tkF (σ 5) t i) q)) pre post (σ 5) (((((su_nn (by decide)).trans (su_nn (by decide))).trans (su_nn (by decide))).trans (su_nn (by decide)))) (σ 6) (((((su_nn (by decide)).trans (su_nn (by decide))).trans (su_nn (by decide))).trans (su_nn (by decide)))) t (tkF (σ 5) t i + q) hT ht (by omega)) mv_X6_byteAt ml_RX6_73 rfl ⟨Nat.le_of_ble_eq_true rfl, Nat.le_of_ble_eq_true rfl⟩ ⟨rfl, rfl⟩ (q0 := 0) rfl rfl rfl rfl rfl rfl (Nat.le_of_ble_eq_true rfl) dX6_nextToken_139 ?_
              refine rc_Si (pc := 142) C (t_X6_isDigit l ad D (tysW cs) (wM cs h (su (su (su (su σ 7 (fun _ => 2)) 8 (fun _ => nI (tkF (σ 5) t i))) 9 (fun _ => nI (tkF (σ 5) t i + q))) 10 (fun _ => vF (σ 5) (tkF (σ 5) t i) q))) pre post  (bA (σ 5) t (tkF (σ 5) t i + q)) ) ms_X6_isDigit ml_RX6_81 rfl ⟨Nat.le_of_ble_eq_true rfl, Nat.le_of_ble_eq_true rfl⟩ ⟨rfl, rfl⟩ rfl rfl rfl (Nat.le_of_ble_eq_true rfl) dX6_nextToken_142 ?_
              refine r_if_eq (pc := 145) C 201 dX6_nextToken_145 (by decide) (fun c_10 => ?_) (fun c_10 => ?_)
              · skip
                have c_10 := bI_0.mp c_10
                have hA := hx.trans (en_stop (dg_no c_10))
                refine r_aload_n (pc := 201) C 0 dX6_nextToken_201 rfl rfl ?_
                refine r_dup (pc := 202) C dX6_nextToken_202 rfl ?_
                refine mg_to (pc := 203) C fl_RX6_67 dX6_nextToken_203 (nI (tkF (σ 5) t i + q)) (congrFun ((su_nn (by decide)).trans su_at) 0) ?_
                refine r_aload_n (pc := 206) C 0 dX6_nextToken_206 rfl rfl ?_
                refine mg_token (pc := 207) C fl_RX6_84 dX6_nextToken_207 2 (congrFun ((((su_nn (by decide)).trans (su_nn (by decide))).trans (su_nn (by decide))).trans su_at) 0) ?_
                refine r_iconst (pc := 210) C 2 dX6_nextToken_210 (by decide) ?_
                refine r_icmp_le (pc := 211) C 218 dX6_nextToken_211 (by decide) (fun c_11 => ?_) (fun c_11 => ?_)
                · skip
                  revert c_11; intro c_11
                  refine r_iconst (pc := 218) C 0 dX6_nextToken_218 (by decide) ?_
                  refine r_iadd (pc := 219) C dX6_nextToken_219 ?_
                  refine r_eqi (y := nI (tkF (σ 5) t i + q + 0)) (nI_add (tkF (σ 5) t i + q) 0) ?_
                  refine mp_to (pc := 220) C fl_RX6_67 dX6_nextToken_220 ?_
                  refine r_blk (blk' := wM cs h (su (su (su (su σ 7 (fun _ => 2)) 8 (fun _ => nI (tkF (σ 5) t i))) 9 (fun _ => nI (tkF (σ 5) t i + q + 0))) 10 (fun _ => vF (σ 5) (tkF (σ 5) t i) q))) (congrArg (wM cs h) (by rw [su_cm (k := 10) (j := 9) (by decide), su_su])) ?_
                  have hK : tkK (σ 5) t i = 2 := by simp [tkK, *]
                  have hTT : tkT (σ 5) t i = tkF (σ 5) t i + q := by rw [tkT, if_neg (by omega), if_pos hK]; exact hA
                  have hVV : tkV (σ 5) t i = vF (σ 5) (tkF (σ 5) t i) q := by rw [tkV, if_pos hK, hTT, Nat.add_sub_cancel_left]
                  exact r_vret (pc := 223) C hr hlk dX6_nextToken_223 (by rw [hK, hTT, hVV] <;> rfl)
                · skip
                  revert c_11; intro c_11
                  exact absurd c_11 (by decide)
              · skip
                have c_10 := bI_n.mp c_10
                obtain ⟨hs1, hs2⟩ := dg_yes c_10
                refine r_aload_n (pc := 148) C 0 dX6_nextToken_148 rfl rfl ?_
                refine r_aload_n (pc := 149) C 0 dX6_nextToken_149 rfl rfl ?_
                refine mg_value (pc := 150) C fl_RX6_87 dX6_nextToken_150 (vF (σ 5) (tkF (σ 5) t i) q) (congrFun (su_at) 0) ?_
                refine r_sipush (pc := 153) C 999 dX6_nextToken_153 (by decide) ?_
                refine r_icmp_le (pc := 156) C 166 dX6_nextToken_156 (by decide) (fun c_12 => ?_) (fun c_12 => ?_)
                · skip
                  refine r_bipush (pc := 166) C 10 dX6_nextToken_166 (by decide) ?_
                  refine r_aload_n (pc := 168) C 0 dX6_nextToken_168 rfl rfl ?_
                  refine mg_value (pc := 169) C fl_RX6_87 dX6_nextToken_169 (vF (σ 5) (tkF (σ 5) t i) q) (congrFun (su_at) 0) ?_
                  refine r_imul (pc := 172) C dX6_nextToken_172 ?_
                  refine r_aload_n (pc := 173) C 0 dX6_nextToken_173 rfl rfl ?_
                  refine r_aload_n (pc := 174) C 0 dX6_nextToken_174 rfl rfl ?_
                  refine mg_to (pc := 175) C fl_RX6_67 dX6_nextToken_175 (nI (tkF (σ 5) t i + q)) (congrFun ((su_nn (by decide)).trans su_at) 0) ?_
                  refine rc_Vi (pc := 178) C (t_X6_byteAt' l ad D cs h (su (su (su (su σ 7 (fun _ => 2)) 8 (fun _ => nI (tkF (σ 5) t i))) 9 (fun _ => nI (tkF (σ 5) t i + q))) 10 (fun _ => vF (σ 5) (tkF (σ 5) t i) q)) pre post (σ 5) (((((su_nn (by decide)).trans (su_nn (by decide))).trans (su_nn (by decide))).trans (su_nn (by decide)))) (σ 6) (((((su_nn (by decide)).trans (su_nn (by decide))).trans (su_nn (by decide))).trans (su_nn (by decide)))) t (tkF (σ 5) t i + q) hT ht (by omega)) mv_X6_byteAt ml_RX6_73 rfl ⟨Nat.le_of_ble_eq_true rfl, Nat.le_of_ble_eq_true rfl⟩ ⟨rfl, rfl⟩ (q0 := 0) rfl rfl rfl rfl rfl rfl (Nat.le_of_ble_eq_true rfl) dX6_nextToken_178 ?_
                  refine r_iadd (pc := 181) C dX6_nextToken_181 ?_
                  refine r_bipush (pc := 182) C 48 dX6_nextToken_182 (by decide) ?_
                  refine r_isub (pc := 184) C dX6_nextToken_184 ?_
                  refine mp_value (pc := 185) C fl_RX6_87 dX6_nextToken_185 ?_
                  refine r_blk (blk' := wM cs h (su (su (su (su σ 7 (fun _ => 2)) 8 (fun _ => nI (tkF (σ 5) t i))) 9 (fun _ => nI (tkF (σ 5) t i + q))) 10 (fun _ => ((10 * (vF (σ 5) (tkF (σ 5) t i) q)) + (bA (σ 5) t (tkF (σ 5) t i + q))) - 48))) (congrArg (wM cs h) (by rw [su_su])) ?_
                  refine r_aload_n (pc := 188) C 0 dX6_nextToken_188 rfl rfl ?_
                  refine r_dup (pc := 189) C dX6_nextToken_189 rfl ?_
                  refine mg_to (pc := 190) C fl_RX6_67 dX6_nextToken_190 (nI (tkF (σ 5) t i + q)) (congrFun ((su_nn (by decide)).trans su_at) 0) ?_
                  refine r_iconst (pc := 193) C 1 dX6_nextToken_193 (by decide) ?_
                  refine r_iadd (pc := 194) C dX6_nextToken_194 ?_
                  refine r_eqi (y := nI (tkF (σ 5) t i + q + 1)) (nI_add (tkF (σ 5) t i + q) 1) ?_
                  refine mp_to (pc := 195) C fl_RX6_67 dX6_nextToken_195 ?_
                  refine r_blk (blk' := wM cs h (su (su (su (su σ 7 (fun _ => 2)) 8 (fun _ => nI (tkF (σ 5) t i))) 9 (fun _ => nI (tkF (σ 5) t i + q + 1))) 10 (fun _ => ((10 * (vF (σ 5) (tkF (σ 5) t i) q)) + (bA (σ 5) t (tkF (σ 5) t i + q))) - 48))) (congrArg (wM cs h) (by rw [su_cm (k := 10) (j := 9) (by decide), su_su])) ?_
                  refine r_goto (pc := 198) C 126 dX6_nextToken_198 (by decide) ?_
                  refine r_pick (lv' := [(0, .ref (h 0)), (1, .int (bA (σ 5) t (tkF (σ 5) t i)))]) [0, 1] rfl ?_
                  refine r_blk (blk' := wM cs h (su (su (su (su σ 7 (fun _ => 2)) 8 (fun _ => nI (tkF (σ 5) t i))) 9 (fun _ => nI (tkF (σ 5) t i + (q + 1)))) 10 (fun _ => vF (σ 5) (tkF (σ 5) t i) (q + 1)))) (by rw [show (fun _ => vF (σ 5) (tkF (σ 5) t i) (q + 1) : Nat → Int32) = fun _ => ((10 * (vF (σ 5) (tkF (σ 5) t i) q)) + (bA (σ 5) t (tkF (σ 5) t i + q))) - 48 from Eq.symm ((by funext z_; show _ = (if vF (σ 5) (tkF (σ 5) t i) q ≤ 999 then 10 * vF (σ 5) (tkF (σ 5) t i) q + σ 5 (tkF (σ 5) t i + q) - 48 else vF (σ 5) (tkF (σ 5) t i) q); rw [if_pos ‹_›, ← bA_lt (T := σ 5) hs1]))] <;> rfl) ?_
                  exact ih (by omega) (hx.trans (en_next hs1 hs2))
                · skip
                  refine r_aload_n (pc := 159) C 0 dX6_nextToken_159 rfl rfl ?_
                  refine mg_value (pc := 160) C fl_RX6_87 dX6_nextToken_160 (vF (σ 5) (tkF (σ 5) t i) q) (congrFun (su_at) 0) ?_
                  refine r_goto (pc := 163) C 185 dX6_nextToken_163 (by decide) ?_
                  refine mp_value (pc := 185) C fl_RX6_87 dX6_nextToken_185 ?_
                  refine r_blk (blk' := wM cs h (su (su (su (su σ 7 (fun _ => 2)) 8 (fun _ => nI (tkF (σ 5) t i))) 9 (fun _ => nI (tkF (σ 5) t i + q))) 10 (fun _ => vF (σ 5) (tkF (σ 5) t i) q))) (congrArg (wM cs h) (by rw [su_su])) ?_
                  refine r_aload_n (pc := 188) C 0 dX6_nextToken_188 rfl rfl ?_
                  refine r_dup (pc := 189) C dX6_nextToken_189 rfl ?_
                  refine mg_to (pc := 190) C fl_RX6_67 dX6_nextToken_190 (nI (tkF (σ 5) t i + q)) (congrFun ((su_nn (by decide)).trans su_at) 0) ?_
                  refine r_iconst (pc := 193) C 1 dX6_nextToken_193 (by decide) ?_
                  refine r_iadd (pc := 194) C dX6_nextToken_194 ?_
                  refine r_eqi (y := nI (tkF (σ 5) t i + q + 1)) (nI_add (tkF (σ 5) t i + q) 1) ?_
                  refine mp_to (pc := 195) C fl_RX6_67 dX6_nextToken_195 ?_
                  refine r_blk (blk' := wM cs h (su (su (su (su σ 7 (fun _ => 2)) 8 (fun _ => nI (tkF (σ 5) t i))) 9 (fun _ => nI (tkF (σ 5) t i + q + 1))) 10 (fun _ => vF (σ 5) (tkF (σ 5) t i) q))) (congrArg (wM cs h) (by rw [su_cm (k := 10) (j := 9) (by decide), su_su])) ?_
                  refine r_goto (pc := 198) C 126 dX6_nextToken_198 (by decide) ?_
                  refine r_pick (lv' := [(0, .ref (h 0)), (1, .int (bA (σ 5) t (tkF (σ 5) t i)))]) [0, 1] rfl ?_
                  refine r_blk (blk' := wM cs h (su (su (su (su σ 7 (fun _ => 2)) 8 (fun _ => nI (tkF (σ 5) t i))) 9 (fun _ => nI (tkF (σ 5) t i + (q + 1)))) 10 (fun _ => vF (σ 5) (tkF (σ 5) t i) (q + 1)))) (by rw [show (fun _ => vF (σ 5) (tkF (σ 5) t i) (q + 1) : Nat → Int32) = fun _ => vF (σ 5) (tkF (σ 5) t i) q from Eq.symm ((by funext z_; show _ = (if vF (σ 5) (tkF (σ 5) t i) q ≤ 999 then 10 * vF (σ 5) (tkF (σ 5) t i) q + σ 5 (tkF (σ 5) t i + q) - 48 else vF (σ 5) (tkF (σ 5) t i) q); rw [if_neg ‹_›]))] <;> rfl) ?_
                  exact ih (by omega) (hx.trans (en_next hs1 hs2))
          · skip
            revert c_8; intro c_8
            exact absurd c_8 (by decide)
      · skip
        have c_3 := bI_n.mp c_3
        refine r_iconst (pc := 67) C 1 dX6_nextToken_67 (by decide) ?_
        refine r_goto (pc := 68) C 83 dX6_nextToken_68 (by decide) ?_
        refine mp_token (pc := 83) C fl_RX6_84 dX6_nextToken_83 ?_
        refine r_blk (blk' := wM cs h (su (su (su σ 7 (fun _ => 1)) 8 (fun _ => nI (tkF (σ 5) t i))) 9 (fun _ => nI (tkF (σ 5) t i)))) (congrArg (wM cs h) (by rw [su_cm (k := 9) (j := 7) (by decide), su_cm (k := 8) (j := 7) (by decide)])) ?_
        refine r_aload_n (pc := 86) C 1 dX6_nextToken_86 rfl rfl ?_
        refine r_iconst (pc := 87) C 0 dX6_nextToken_87 (by decide) ?_
        refine mp_value (pc := 88) C fl_RX6_87 dX6_nextToken_88 ?_
        refine r_pick (lv' := [(0, .ref (h 0)), (1, .int (bA (σ 5) t (tkF (σ 5) t i)))]) [1, 0] rfl ?_
        refine r_loop (blkf := fun pp => wM cs h (su (su (su (su σ 7 (fun _ => 1)) 8 (fun _ => nI (tkF (σ 5) t i))) 9 (fun _ => nI pp)) 10 (fun _ => 0))) (lvf := fun pp => [(0, .ref (h 0)), (1, .int (bA (σ 5) t (tkF (σ 5) t i)))]) (fun pp => endF (alP (σ 5)) (t - tkF (σ 5) t i) (tkF (σ 5) t i) = endF (alP (σ 5)) (t - pp) pp) t (tkF (σ 5) t i) (by omega) (rfl) (fun pp h_pp hx ih => ?_)
        show VX p l e _ s m args below meth c _ D A 2 pre (wM cs h (su (su (su (su σ 7 (fun _ => 1)) 8 (fun _ => nI (tkF (σ 5) t i))) 9 (fun _ => nI pp)) 10 (fun _ => 0))) post 91 [(0, .ref (h 0)), (1, .int (bA (σ 5) t (tkF (σ 5) t i)))] []
        refine r_aload_n (pc := 91) C 0 dX6_nextToken_91 rfl rfl ?_
        refine mg_token (pc := 92) C fl_RX6_84 dX6_nextToken_92 1 (congrFun ((((su_nn (by decide)).trans (su_nn (by decide))).trans (su_nn (by decide))).trans su_at) 0) ?_
        refine r_iconst (pc := 95) C 1 dX6_nextToken_95 (by decide) ?_
        refine r_icmp_ne (pc := 96) C 126 dX6_nextToken_96 (by decide) (fun c_13 => ?_) (fun c_13 => ?_)
        · skip
          revert c_13; intro c_13
          exact absurd c_13 (by decide)
        · skip
          revert c_13; intro c_13
          refine r_aload_n (pc := 99) C 0 dX6_nextToken_99 rfl rfl ?_
          refine r_aload_n (pc := 100) C 0 dX6_nextToken_100 rfl rfl ?_
          refine mg_to (pc := 101) C fl_RX6_67 dX6_nextToken_101 (nI pp) (congrFun ((su_nn (by decide)).trans su_at) 0) ?_
          refine rc_Vi (pc := 104) C (t_X6_byteAt' l ad D cs h (su (su (su (su σ 7 (fun _ => 1)) 8 (fun _ => nI (tkF (σ 5) t i))) 9 (fun _ => nI pp)) 10 (fun _ => 0)) pre post (σ 5) (((((su_nn (by decide)).trans (su_nn (by decide))).trans (su_nn (by decide))).trans (su_nn (by decide)))) (σ 6) (((((su_nn (by decide)).trans (su_nn (by decide))).trans (su_nn (by decide))).trans (su_nn (by decide)))) t pp hT ht (by omega)) mv_X6_byteAt ml_RX6_73 rfl ⟨Nat.le_of_ble_eq_true rfl, Nat.le_of_ble_eq_true rfl⟩ ⟨rfl, rfl⟩ (q0 := 0) rfl rfl rfl rfl rfl rfl (Nat.le_of_ble_eq_true rfl) dX6_nextToken_104 ?_
          refine rc_Si (pc := 107) C (t_X6_isAlpha l ad D (tysW cs) (wM cs h (su (su (su (su σ 7 (fun _ => 1)) 8 (fun _ => nI (tkF (σ 5) t i))) 9 (fun _ => nI pp)) 10 (fun _ => 0))) pre post  (bA (σ 5) t pp) ) ms_X6_isAlpha ml_RX6_77 rfl ⟨Nat.le_of_ble_eq_true rfl, Nat.le_of_ble_eq_true rfl⟩ ⟨rfl, rfl⟩ rfl rfl rfl (Nat.le_of_ble_eq_true rfl) dX6_nextToken_107 ?_
          refine r_if_eq (pc := 110) C 126 dX6_nextToken_110 (by decide) (fun c_14 => ?_) (fun c_14 => ?_)
          · skip
            have c_14 := bI_0.mp c_14
            have hA := hx.trans (en_stop (al_no c_14))
            refine r_aload_n (pc := 126) C 0 dX6_nextToken_126 rfl rfl ?_
            refine mg_token (pc := 127) C fl_RX6_84 dX6_nextToken_127 1 (congrFun ((((su_nn (by decide)).trans (su_nn (by decide))).trans (su_nn (by decide))).trans su_at) 0) ?_
            refine r_iconst (pc := 130) C 2 dX6_nextToken_130 (by decide) ?_
            refine r_icmp_ne (pc := 131) C 201 dX6_nextToken_131 (by decide) (fun c_15 => ?_) (fun c_15 => ?_)
            · skip
              revert c_15; intro c_15
              refine r_aload_n (pc := 201) C 0 dX6_nextToken_201 rfl rfl ?_
              refine r_dup (pc := 202) C dX6_nextToken_202 rfl ?_
              refine mg_to (pc := 203) C fl_RX6_67 dX6_nextToken_203 (nI pp) (congrFun ((su_nn (by decide)).trans su_at) 0) ?_
              refine r_aload_n (pc := 206) C 0 dX6_nextToken_206 rfl rfl ?_
              refine mg_token (pc := 207) C fl_RX6_84 dX6_nextToken_207 1 (congrFun ((((su_nn (by decide)).trans (su_nn (by decide))).trans (su_nn (by decide))).trans su_at) 0) ?_
              refine r_iconst (pc := 210) C 2 dX6_nextToken_210 (by decide) ?_
              refine r_icmp_le (pc := 211) C 218 dX6_nextToken_211 (by decide) (fun c_16 => ?_) (fun c_16 => ?_)
              · skip
                revert c_16; intro c_16
                refine r_iconst (pc := 218) C 0 dX6_nextToken_218 (by decide) ?_
                refine r_iadd (pc := 219) C dX6_nextToken_219 ?_
                refine r_eqi (y := nI (pp + 0)) (nI_add pp 0) ?_
                refine mp_to (pc := 220) C fl_RX6_67 dX6_nextToken_220 ?_
                refine r_blk (blk' := wM cs h (su (su (su (su σ 7 (fun _ => 1)) 8 (fun _ => nI (tkF (σ 5) t i))) 9 (fun _ => nI (pp + 0))) 10 (fun _ => 0))) (congrArg (wM cs h) (by rw [su_cm (k := 10) (j := 9) (by decide), su_su])) ?_
                have hK : tkK (σ 5) t i = 1 := by simp [tkK, *]
                have hTT : tkT (σ 5) t i = pp := by rw [tkT, if_pos hK]; exact hA
                have hVV : tkV (σ 5) t i = 0 := if_neg (by omega)
                exact r_vret (pc := 223) C hr hlk dX6_nextToken_223 (by rw [hK, hTT, hVV] <;> rfl)
              · skip
                revert c_16; intro c_16
                exact absurd c_16 (by decide)
            · skip
              revert c_15; intro c_15
              exact absurd c_15 (by decide)
          · skip
            have c_14 := bI_n.mp c_14
            obtain ⟨hs1, hs2⟩ := al_yes c_14
            refine r_aload_n (pc := 113) C 0 dX6_nextToken_113 rfl rfl ?_
            refine r_dup (pc := 114) C dX6_nextToken_114 rfl ?_
            refine mg_to (pc := 115) C fl_RX6_67 dX6_nextToken_115 (nI pp) (congrFun ((su_nn (by decide)).trans su_at) 0) ?_
            refine r_iconst (pc := 118) C 1 dX6_nextToken_118 (by decide) ?_
            refine r_iadd (pc := 119) C dX6_nextToken_119 ?_
            refine r_eqi (y := nI (pp + 1)) (nI_add pp 1) ?_
            refine mp_to (pc := 120) C fl_RX6_67 dX6_nextToken_120 ?_
            refine r_blk (blk' := wM cs h (su (su (su (su σ 7 (fun _ => 1)) 8 (fun _ => nI (tkF (σ 5) t i))) 9 (fun _ => nI (pp + 1))) 10 (fun _ => 0))) (congrArg (wM cs h) (by rw [su_cm (k := 10) (j := 9) (by decide), su_su])) ?_
            refine r_goto (pc := 123) C 91 dX6_nextToken_123 (by decide) ?_
            refine r_pick (lv' := [(0, .ref (h 0)), (1, .int (bA (σ 5) t (tkF (σ 5) t i)))]) [0, 1] rfl ?_
            exact ih (by omega) (hx.trans (en_next hs1 hs2))
    · skip
      refine r_iconst (pc := 56) C 0 dX6_nextToken_56 (by decide) ?_
      refine r_goto (pc := 57) C 83 dX6_nextToken_57 (by decide) ?_
      refine mp_token (pc := 83) C fl_RX6_84 dX6_nextToken_83 ?_
      refine r_blk (blk' := wM cs h (su (su (su σ 7 (fun _ => 0)) 8 (fun _ => nI (tkF (σ 5) t i))) 9 (fun _ => nI (tkF (σ 5) t i)))) (congrArg (wM cs h) (by rw [su_cm (k := 9) (j := 7) (by decide), su_cm (k := 8) (j := 7) (by decide)])) ?_
      refine r_aload_n (pc := 86) C 1 dX6_nextToken_86 rfl rfl ?_
      refine r_iconst (pc := 87) C 0 dX6_nextToken_87 (by decide) ?_
      refine mp_value (pc := 88) C fl_RX6_87 dX6_nextToken_88 ?_
      refine r_aload_n (pc := 91) C 1 dX6_nextToken_91 rfl rfl ?_
      refine mg_token (pc := 92) C fl_RX6_84 dX6_nextToken_92 0 (congrFun ((((su_nn (by decide)).trans (su_nn (by decide))).trans (su_nn (by decide))).trans su_at) 0) ?_
      refine r_iconst (pc := 95) C 1 dX6_nextToken_95 (by decide) ?_
      refine r_icmp_ne (pc := 96) C 126 dX6_nextToken_96 (by decide) (fun c_17 => ?_) (fun c_17 => ?_)
      · skip
        revert c_17; intro c_17
        refine r_aload_n (pc := 126) C 1 dX6_nextToken_126 rfl rfl ?_
        refine mg_token (pc := 127) C fl_RX6_84 dX6_nextToken_127 0 (congrFun ((((su_nn (by decide)).trans (su_nn (by decide))).trans (su_nn (by decide))).trans su_at) 0) ?_
        refine r_iconst (pc := 130) C 2 dX6_nextToken_130 (by decide) ?_
        refine r_icmp_ne (pc := 131) C 201 dX6_nextToken_131 (by decide) (fun c_18 => ?_) (fun c_18 => ?_)
        · skip
          revert c_18; intro c_18
          refine r_aload_n (pc := 201) C 1 dX6_nextToken_201 rfl rfl ?_
          refine r_dup (pc := 202) C dX6_nextToken_202 rfl ?_
          refine mg_to (pc := 203) C fl_RX6_67 dX6_nextToken_203 (nI (tkF (σ 5) t i)) (congrFun ((su_nn (by decide)).trans su_at) 0) ?_
          refine r_aload_n (pc := 206) C 1 dX6_nextToken_206 rfl rfl ?_
          refine mg_token (pc := 207) C fl_RX6_84 dX6_nextToken_207 0 (congrFun ((((su_nn (by decide)).trans (su_nn (by decide))).trans (su_nn (by decide))).trans su_at) 0) ?_
          refine r_iconst (pc := 210) C 2 dX6_nextToken_210 (by decide) ?_
          refine r_icmp_le (pc := 211) C 218 dX6_nextToken_211 (by decide) (fun c_19 => ?_) (fun c_19 => ?_)
          · skip
            revert c_19; intro c_19
            refine r_iconst (pc := 218) C 0 dX6_nextToken_218 (by decide) ?_
            refine r_iadd (pc := 219) C dX6_nextToken_219 ?_
            refine r_eqi (y := nI (tkF (σ 5) t i + 0)) (nI_add (tkF (σ 5) t i) 0) ?_
            refine mp_to (pc := 220) C fl_RX6_67 dX6_nextToken_220 ?_
            refine r_blk (blk' := wM cs h (su (su (su (su σ 7 (fun _ => 0)) 8 (fun _ => nI (tkF (σ 5) t i))) 9 (fun _ => nI (tkF (σ 5) t i + 0))) 10 (fun _ => 0))) (congrArg (wM cs h) (by rw [su_cm (k := 10) (j := 9) (by decide), su_su])) ?_
            have hK : tkK (σ 5) t i = 0 := by simp [tkK, *]
            have hTT : tkT (σ 5) t i = tkF (σ 5) t i := by rw [tkT, if_neg (by omega), if_neg (by omega), if_neg (by omega)]
            have hVV : tkV (σ 5) t i = 0 := if_neg (by omega)
            exact r_vret (pc := 223) C hr hlk dX6_nextToken_223 (by rw [hK, hTT, hVV] <;> rfl)
          · skip
            revert c_19; intro c_19
            exact absurd c_19 (by decide)
        · skip
          revert c_18; intro c_18
          exact absurd c_18 (by decide)
      · skip
        revert c_17; intro c_17
        exact absurd c_17 (by decide)
  · skip
    obtain ⟨hs1, hs2⟩ := sp_32 c_1
    refine r_aload_n (pc := 21) C 0 dX6_nextToken_21 rfl rfl ?_
    refine r_dup (pc := 22) C dX6_nextToken_22 rfl ?_
    refine mg_from (pc := 23) C fl_RX6_70 dX6_nextToken_23 (nI pp) (congrFun (su_at) 0) ?_
    refine r_iconst (pc := 26) C 1 dX6_nextToken_26 (by decide) ?_
    refine r_iadd (pc := 27) C dX6_nextToken_27 ?_
    refine r_eqi (y := nI (pp + 1)) (nI_add pp 1) ?_
    refine mp_from (pc := 28) C fl_RX6_70 dX6_nextToken_28 ?_
    refine r_blk (blk' := wM cs h (su σ 8 (fun _ => nI (pp + 1)))) (congrArg (wM cs h) (by rw [su_su])) ?_
    refine r_goto (pc := 31) C 8 dX6_nextToken_31 (by decide) ?_
    refine r_pick (lv' := [(0, .ref (h 0))]) [0] rfl ?_
    exact ih (by omega) (hx.trans (en_next hs1 hs2))
theorem t_X6_nextToken' (l : Launch) (ad : Nat → Nat) (D : va_G) (cs : Nat → ClassId) (h : Nat → Nat) (σ : Nat → Nat → Int32) (pre post : va_W) (f5_ : Nat → Int32) (e5_ : σ 5 = f5_) (f6_ : Nat → Int32) (e6_ : σ 6 = f6_) (f9_ : Nat → Int32) (e9_ : σ 9 = f9_) (t i : Nat) (hT : f6_ 0 = nI t) (ht : t ≤ 200) (h9 : f9_ 0 = nI i) (hi : i ≤ t) : CTv l yX6_nextToken cX6_nextToken 2 ({ frames := 1, cells := 0, slots := 0, locals := 21 }) ad D (tysW cs) (pre ++ (wM cs h σ ++ post)) [.ref (h 0)] (pre ++ (wM cs h (su (su (su (su σ 7 (fun _ => nI (tkK (f5_) t i))) 8 (fun _ => nI (tkF (f5_) t i))) 9 (fun _ => nI (tkT (f5_) t i))) 10 (fun _ => tkV (f5_) t i)) ++ post)) := by
  subst e5_; subst e6_; subst e9_
  exact t_X6_nextToken l ad D cs h σ pre post t i hT ht h9 hi
theorem dX6_isName_0 : decode cX6_isName 0 = .ok (.aload_n 0, 1) := by decide +kernel
theorem dX6_isName_1 : decode cX6_isName 1 = .ok (.getfield 84, 3) := by decide +kernel
theorem dX6_isName_4 : decode cX6_isName 4 = .ok (.iconst 1, 1) := by decide +kernel
theorem dX6_isName_5 : decode cX6_isName 5 = .ok (.if_icmp .ne 76, 3) := by decide +kernel
theorem dX6_isName_8 : decode cX6_isName 8 = .ok (.aload_n 0, 1) := by decide +kernel
theorem dX6_isName_9 : decode cX6_isName 9 = .ok (.getfield 67, 3) := by decide +kernel
theorem dX6_isName_12 : decode cX6_isName 12 = .ok (.aload_n 0, 1) := by decide +kernel
theorem dX6_isName_13 : decode cX6_isName 13 = .ok (.getfield 70, 3) := by decide +kernel
theorem dX6_isName_16 : decode cX6_isName 16 = .ok (.isub, 1) := by decide +kernel
theorem dX6_isName_17 : decode cX6_isName 17 = .ok (.iload_n 1, 1) := by decide +kernel
theorem dX6_isName_18 : decode cX6_isName 18 = .ok (.if_icmp .ne 63, 3) := by decide +kernel
theorem dX6_isName_21 : decode cX6_isName 21 = .ok (.aload_n 0, 1) := by decide +kernel
theorem dX6_isName_22 : decode cX6_isName 22 = .ok (.aload_n 0, 1) := by decide +kernel
theorem dX6_isName_23 : decode cX6_isName 23 = .ok (.getfield 70, 3) := by decide +kernel
theorem dX6_isName_26 : decode cX6_isName 26 = .ok (.invokevirtual 73, 3) := by decide +kernel
theorem dX6_isName_29 : decode cX6_isName 29 = .ok (.iload_n 2, 1) := by decide +kernel
theorem dX6_isName_30 : decode cX6_isName 30 = .ok (.if_icmp .ne 51, 3) := by decide +kernel
theorem dX6_isName_33 : decode cX6_isName 33 = .ok (.aload_n 0, 1) := by decide +kernel
theorem dX6_isName_34 : decode cX6_isName 34 = .ok (.aload_n 0, 1) := by decide +kernel
theorem dX6_isName_35 : decode cX6_isName 35 = .ok (.getfield 70, 3) := by decide +kernel
theorem dX6_isName_38 : decode cX6_isName 38 = .ok (.iconst 1, 1) := by decide +kernel
theorem dX6_isName_39 : decode cX6_isName 39 = .ok (.iadd, 1) := by decide +kernel
theorem dX6_isName_40 : decode cX6_isName 40 = .ok (.invokevirtual 73, 3) := by decide +kernel
theorem dX6_isName_43 : decode cX6_isName 43 = .ok (.iload_n 3, 1) := by decide +kernel
theorem dX6_isName_44 : decode cX6_isName 44 = .ok (.if_icmp .ne 37, 3) := by decide +kernel
theorem dX6_isName_47 : decode cX6_isName 47 = .ok (.aload_n 0, 1) := by decide +kernel
theorem dX6_isName_48 : decode cX6_isName 48 = .ok (.aload_n 0, 1) := by decide +kernel
theorem dX6_isName_49 : decode cX6_isName 49 = .ok (.getfield 70, 3) := by decide +kernel
theorem dX6_isName_52 : decode cX6_isName 52 = .ok (.iconst 2, 1) := by decide +kernel
theorem dX6_isName_53 : decode cX6_isName 53 = .ok (.iadd, 1) := by decide +kernel
theorem dX6_isName_54 : decode cX6_isName 54 = .ok (.invokevirtual 73, 3) := by decide +kernel
theorem dX6_isName_57 : decode cX6_isName 57 = .ok (.iload 4, 2) := by decide +kernel
theorem dX6_isName_59 : decode cX6_isName 59 = .ok (.if_icmp .ne 22, 3) := by decide +kernel
theorem dX6_isName_62 : decode cX6_isName 62 = .ok (.aload_n 0, 1) := by decide +kernel
theorem dX6_isName_63 : decode cX6_isName 63 = .ok (.aload_n 0, 1) := by decide +kernel
theorem dX6_isName_64 : decode cX6_isName 64 = .ok (.getfield 67, 3) := by decide +kernel
theorem dX6_isName_67 : decode cX6_isName 67 = .ok (.iconst 1, 1) := by decide +kernel
theorem dX6_isName_68 : decode cX6_isName 68 = .ok (.isub, 1) := by decide +kernel
theorem dX6_isName_69 : decode cX6_isName 69 = .ok (.invokevirtual 73, 3) := by decide +kernel
theorem dX6_isName_72 : decode cX6_isName 72 = .ok (.iload 5, 2) := by decide +kernel
theorem dX6_isName_74 : decode cX6_isName 74 = .ok (.if_icmp .ne 7, 3) := by decide +kernel
theorem dX6_isName_77 : decode cX6_isName 77 = .ok (.iconst 1, 1) := by decide +kernel
theorem dX6_isName_78 : decode cX6_isName 78 = .ok (.goto 4, 3) := by decide +kernel
theorem dX6_isName_81 : decode cX6_isName 81 = .ok (.iconst 0, 1) := by decide +kernel
theorem dX6_isName_82 : decode cX6_isName 82 = .ok (.ireturn, 1) := by decide +kernel
set_option maxHeartbeats 400000 in
set_option maxRecDepth 20000 in
theorem t_X6_isName (l : Launch) (ad : Nat → Nat) (D : va_G) (cs : Nat → ClassId) (h : Nat → Nat) (σ : Nat → Nat → Int32) (pre post : va_W) (t i : Nat) (q : Nat) (a b x d : Int32) (hT : σ 6 0 = nI t) (ht : t ≤ 200) (hi : i ≤ t) (h7 : σ 7 0 = nI (tkK (σ 5) t i)) (h8 : σ 8 0 = nI (tkF (σ 5) t i)) (h9 : σ 9 0 = nI (tkT (σ 5) t i)) (hq : q ≤ 20) : CTi l yX6_isName cX6_isName 6 .boolean ({ frames := 1, cells := 0, slots := 0, locals := 21 }) ad D (tysW cs) (pre ++ (wM cs h σ ++ post)) [.ref (h 0), .int (nI q), .int a, .int b, .int x, .int d] (bI (nmB (σ 5) t i q a b x d = true)) (pre ++ (wM cs h σ ++ post)) := by
  refine CTi.of (lv0 := [(0, .ref (h 0)), (1, .int (nI q)), (2, .int a), (3, .int b), (4, .int x), (5, .int d)]) (by decide) rfl (Nat.le_of_ble_eq_true rfl) (fun p e s m args below meth c A C hr hlk => ?_)
  have C : Cx p s m args c cX6_isName 6 RX6 ad D (tysW cs) A := C
  have hk_ := tkK_le (σ 5) t i
  have hf_ := tkF_le (T := σ 5) hi
  have ht_ := tkT_le (T := σ 5) hi
  refine r_aload_n (pc := 0) C 0 dX6_isName_0 rfl rfl ?_
  refine mg_token (pc := 1) C fl_RX6_84 dX6_isName_1 (σ 7 0) rfl ?_
  refine r_eqi (y := nI (tkK (σ 5) t i)) (h7) ?_
  refine r_iconst (pc := 4) C 1 dX6_isName_4 (by decide) ?_
  refine r_icmp_ne (pc := 5) C 81 dX6_isName_5 (by decide) (fun c_1 => ?_) (fun c_1 => ?_)
  · skip
    have c_1 := nIc_ne_t (a := (tkK (σ 5) t i)) (b := 1) (by omega) (by omega) c_1
    refine r_iconst (pc := 81) C 0 dX6_isName_81 (by decide) ?_
    exact r_iret (pc := 82) C hr hlk dX6_isName_82 rfl (by simp_all [bI, nmB]) rfl
  · skip
    have c_1 := nIc_ne_f (a := (tkK (σ 5) t i)) (b := 1) (by omega) (by omega) c_1
    have h1_ := tkT_1 (T := σ 5) (t := t) (i := i) c_1
    refine r_aload_n (pc := 8) C 0 dX6_isName_8 rfl rfl ?_
    refine mg_to (pc := 9) C fl_RX6_67 dX6_isName_9 (σ 9 0) rfl ?_
    refine r_eqi (y := nI (tkT (σ 5) t i)) (h9) ?_
    refine r_aload_n (pc := 12) C 0 dX6_isName_12 rfl rfl ?_
    refine mg_from (pc := 13) C fl_RX6_70 dX6_isName_13 (σ 8 0) rfl ?_
    refine r_eqi (y := nI (tkF (σ 5) t i)) (h8) ?_
    refine r_isub (pc := 16) C dX6_isName_16 ?_
    refine r_eqi (y := nI (tkT (σ 5) t i - tkF (σ 5) t i)) (pk_sub (by omega)) ?_
    refine r_iload_n (pc := 17) C 1 dX6_isName_17 rfl rfl ?_
    refine r_icmp_ne (pc := 18) C 81 dX6_isName_18 (by decide) (fun c_2 => ?_) (fun c_2 => ?_)
    · skip
      have c_2 := nIc_ne_t (a := (tkT (σ 5) t i - tkF (σ 5) t i)) (b := q) (by omega) (by omega) c_2
      refine r_iconst (pc := 81) C 0 dX6_isName_81 (by decide) ?_
      exact r_iret (pc := 82) C hr hlk dX6_isName_82 rfl (by simp_all [bI, nmB]) rfl
    · skip
      have c_2 := nIc_ne_f (a := (tkT (σ 5) t i - tkF (σ 5) t i)) (b := q) (by omega) (by omega) c_2
      refine r_aload_n (pc := 21) C 0 dX6_isName_21 rfl rfl ?_
      refine r_aload_n (pc := 22) C 0 dX6_isName_22 rfl rfl ?_
      refine mg_from (pc := 23) C fl_RX6_70 dX6_isName_23 (σ 8 0) rfl ?_
      refine r_eqi (y := nI (tkF (σ 5) t i)) (h8) ?_
      refine rc_Vi (pc := 26) C (t_X6_byteAt' l ad D cs h σ pre post (σ 5) (rfl) (σ 6) (rfl) t (tkF (σ 5) t i) hT ht (by omega)) mv_X6_byteAt ml_RX6_73 rfl ⟨Nat.le_of_ble_eq_true rfl, Nat.le_of_ble_eq_true rfl⟩ ⟨rfl, rfl⟩ (q0 := 0) rfl rfl rfl rfl rfl rfl (Nat.le_of_ble_eq_true rfl) dX6_isName_26 ?_
      refine r_iload_n (pc := 29) C 2 dX6_isName_29 rfl rfl ?_
      refine r_icmp_ne (pc := 30) C 81 dX6_isName_30 (by decide) (fun c_3 => ?_) (fun c_3 => ?_)
      · skip
        refine r_iconst (pc := 81) C 0 dX6_isName_81 (by decide) ?_
        exact r_iret (pc := 82) C hr hlk dX6_isName_82 rfl (by simp_all [bI, nmB]) rfl
      · skip
        refine r_aload_n (pc := 33) C 0 dX6_isName_33 rfl rfl ?_
        refine r_aload_n (pc := 34) C 0 dX6_isName_34 rfl rfl ?_
        refine mg_from (pc := 35) C fl_RX6_70 dX6_isName_35 (σ 8 0) rfl ?_
        refine r_eqi (y := nI (tkF (σ 5) t i)) (h8) ?_
        refine r_iconst (pc := 38) C 1 dX6_isName_38 (by decide) ?_
        refine r_iadd (pc := 39) C dX6_isName_39 ?_
        refine r_eqi (y := nI (tkF (σ 5) t i + 1)) (nI_add (tkF (σ 5) t i) 1) ?_
        refine rc_Vi (pc := 40) C (t_X6_byteAt' l ad D cs h σ pre post (σ 5) (rfl) (σ 6) (rfl) t (tkF (σ 5) t i + 1) hT ht (by omega)) mv_X6_byteAt ml_RX6_73 rfl ⟨Nat.le_of_ble_eq_true rfl, Nat.le_of_ble_eq_true rfl⟩ ⟨rfl, rfl⟩ (q0 := 0) rfl rfl rfl rfl rfl rfl (Nat.le_of_ble_eq_true rfl) dX6_isName_40 ?_
        refine r_iload_n (pc := 43) C 3 dX6_isName_43 rfl rfl ?_
        refine r_icmp_ne (pc := 44) C 81 dX6_isName_44 (by decide) (fun c_4 => ?_) (fun c_4 => ?_)
        · skip
          refine r_iconst (pc := 81) C 0 dX6_isName_81 (by decide) ?_
          exact r_iret (pc := 82) C hr hlk dX6_isName_82 rfl (by simp_all [bI, nmB]) rfl
        · skip
          refine r_aload_n (pc := 47) C 0 dX6_isName_47 rfl rfl ?_
          refine r_aload_n (pc := 48) C 0 dX6_isName_48 rfl rfl ?_
          refine mg_from (pc := 49) C fl_RX6_70 dX6_isName_49 (σ 8 0) rfl ?_
          refine r_eqi (y := nI (tkF (σ 5) t i)) (h8) ?_
          refine r_iconst (pc := 52) C 2 dX6_isName_52 (by decide) ?_
          refine r_iadd (pc := 53) C dX6_isName_53 ?_
          refine r_eqi (y := nI (tkF (σ 5) t i + 2)) (nI_add (tkF (σ 5) t i) 2) ?_
          refine rc_Vi (pc := 54) C (t_X6_byteAt' l ad D cs h σ pre post (σ 5) (rfl) (σ 6) (rfl) t (tkF (σ 5) t i + 2) hT ht (by omega)) mv_X6_byteAt ml_RX6_73 rfl ⟨Nat.le_of_ble_eq_true rfl, Nat.le_of_ble_eq_true rfl⟩ ⟨rfl, rfl⟩ (q0 := 0) rfl rfl rfl rfl rfl rfl (Nat.le_of_ble_eq_true rfl) dX6_isName_54 ?_
          refine r_iload (pc := 57) C 4 dX6_isName_57 rfl ?_
          refine r_icmp_ne (pc := 59) C 81 dX6_isName_59 (by decide) (fun c_5 => ?_) (fun c_5 => ?_)
          · skip
            refine r_iconst (pc := 81) C 0 dX6_isName_81 (by decide) ?_
            exact r_iret (pc := 82) C hr hlk dX6_isName_82 rfl (by simp_all [bI, nmB]) rfl
          · skip
            refine r_aload_n (pc := 62) C 0 dX6_isName_62 rfl rfl ?_
            refine r_aload_n (pc := 63) C 0 dX6_isName_63 rfl rfl ?_
            refine mg_to (pc := 64) C fl_RX6_67 dX6_isName_64 (σ 9 0) rfl ?_
            refine r_eqi (y := nI (tkT (σ 5) t i)) (h9) ?_
            refine r_iconst (pc := 67) C 1 dX6_isName_67 (by decide) ?_
            refine r_isub (pc := 68) C dX6_isName_68 ?_
            refine r_eqi (y := nI (tkT (σ 5) t i - 1)) (pk_sub (b := 1) (by omega)) ?_
            refine rc_Vi (pc := 69) C (t_X6_byteAt' l ad D cs h σ pre post (σ 5) (rfl) (σ 6) (rfl) t (tkT (σ 5) t i - 1) hT ht (by omega)) mv_X6_byteAt ml_RX6_73 rfl ⟨Nat.le_of_ble_eq_true rfl, Nat.le_of_ble_eq_true rfl⟩ ⟨rfl, rfl⟩ (q0 := 0) rfl rfl rfl rfl rfl rfl (Nat.le_of_ble_eq_true rfl) dX6_isName_69 ?_
            refine r_iload (pc := 72) C 5 dX6_isName_72 rfl ?_
            refine r_icmp_ne (pc := 74) C 81 dX6_isName_74 (by decide) (fun c_6 => ?_) (fun c_6 => ?_)
            · skip
              refine r_iconst (pc := 81) C 0 dX6_isName_81 (by decide) ?_
              exact r_iret (pc := 82) C hr hlk dX6_isName_82 rfl (by simp_all [bI, nmB]) rfl
            · skip
              refine r_iconst (pc := 77) C 1 dX6_isName_77 (by decide) ?_
              refine r_goto (pc := 78) C 82 dX6_isName_78 (by decide) ?_
              exact r_iret (pc := 82) C hr hlk dX6_isName_82 rfl (by simp_all [bI, nmB]) rfl
theorem t_X6_isName' (l : Launch) (ad : Nat → Nat) (D : va_G) (cs : Nat → ClassId) (h : Nat → Nat) (σ : Nat → Nat → Int32) (pre post : va_W) (f5_ : Nat → Int32) (e5_ : σ 5 = f5_) (f6_ : Nat → Int32) (e6_ : σ 6 = f6_) (f7_ : Nat → Int32) (e7_ : σ 7 = f7_) (f8_ : Nat → Int32) (e8_ : σ 8 = f8_) (f9_ : Nat → Int32) (e9_ : σ 9 = f9_) (t i : Nat) (q : Nat) (a b x d : Int32) (hT : f6_ 0 = nI t) (ht : t ≤ 200) (hi : i ≤ t) (h7 : f7_ 0 = nI (tkK (f5_) t i)) (h8 : f8_ 0 = nI (tkF (f5_) t i)) (h9 : f9_ 0 = nI (tkT (f5_) t i)) (hq : q ≤ 20) : CTi l yX6_isName cX6_isName 6 .boolean ({ frames := 1, cells := 0, slots := 0, locals := 21 }) ad D (tysW cs) (pre ++ (wM cs h σ ++ post)) [.ref (h 0), .int (nI q), .int a, .int b, .int x, .int d] (bI (nmB (f5_) t i q a b x d = true)) (pre ++ (wM cs h σ ++ post)) := by
  subst e5_; subst e6_; subst e7_; subst e8_; subst e9_
  exact t_X6_isName l ad D cs h σ pre post t i q a b x d hT ht hi h7 h8 h9 hq
theorem dX6_isSame_0 : decode cX6_isSame 0 = .ok (.aload_n 0, 1) := by decide +kernel
theorem dX6_isSame_1 : decode cX6_isSame 1 = .ok (.aload_n 0, 1) := by decide +kernel
theorem dX6_isSame_2 : decode cX6_isSame 2 = .ok (.getfield 70, 3) := by decide +kernel
theorem dX6_isSame_5 : decode cX6_isSame 5 = .ok (.iload_n 1, 1) := by decide +kernel
theorem dX6_isSame_6 : decode cX6_isSame 6 = .ok (.iadd, 1) := by decide +kernel
theorem dX6_isSame_7 : decode cX6_isSame 7 = .ok (.invokevirtual 73, 3) := by decide +kernel
theorem dX6_isSame_10 : decode cX6_isSame 10 = .ok (.iload_n 2, 1) := by decide +kernel
theorem dX6_isSame_11 : decode cX6_isSame 11 = .ok (.if_icmp .ne 40, 3) := by decide +kernel
theorem dX6_isSame_14 : decode cX6_isSame 14 = .ok (.aload_n 0, 1) := by decide +kernel
theorem dX6_isSame_15 : decode cX6_isSame 15 = .ok (.aload_n 0, 1) := by decide +kernel
theorem dX6_isSame_16 : decode cX6_isSame 16 = .ok (.getfield 70, 3) := by decide +kernel
theorem dX6_isSame_19 : decode cX6_isSame 19 = .ok (.iload_n 1, 1) := by decide +kernel
theorem dX6_isSame_20 : decode cX6_isSame 20 = .ok (.iadd, 1) := by decide +kernel
theorem dX6_isSame_21 : decode cX6_isSame 21 = .ok (.iconst 1, 1) := by decide +kernel
theorem dX6_isSame_22 : decode cX6_isSame 22 = .ok (.iadd, 1) := by decide +kernel
theorem dX6_isSame_23 : decode cX6_isSame 23 = .ok (.invokevirtual 73, 3) := by decide +kernel
theorem dX6_isSame_26 : decode cX6_isSame 26 = .ok (.iload_n 3, 1) := by decide +kernel
theorem dX6_isSame_27 : decode cX6_isSame 27 = .ok (.if_icmp .ne 24, 3) := by decide +kernel
theorem dX6_isSame_30 : decode cX6_isSame 30 = .ok (.aload_n 0, 1) := by decide +kernel
theorem dX6_isSame_31 : decode cX6_isSame 31 = .ok (.aload_n 0, 1) := by decide +kernel
theorem dX6_isSame_32 : decode cX6_isSame 32 = .ok (.getfield 70, 3) := by decide +kernel
theorem dX6_isSame_35 : decode cX6_isSame 35 = .ok (.iload_n 1, 1) := by decide +kernel
theorem dX6_isSame_36 : decode cX6_isSame 36 = .ok (.iadd, 1) := by decide +kernel
theorem dX6_isSame_37 : decode cX6_isSame 37 = .ok (.iconst 2, 1) := by decide +kernel
theorem dX6_isSame_38 : decode cX6_isSame 38 = .ok (.iadd, 1) := by decide +kernel
theorem dX6_isSame_39 : decode cX6_isSame 39 = .ok (.invokevirtual 73, 3) := by decide +kernel
theorem dX6_isSame_42 : decode cX6_isSame 42 = .ok (.iload 4, 2) := by decide +kernel
theorem dX6_isSame_44 : decode cX6_isSame 44 = .ok (.if_icmp .ne 7, 3) := by decide +kernel
theorem dX6_isSame_47 : decode cX6_isSame 47 = .ok (.iconst 1, 1) := by decide +kernel
theorem dX6_isSame_48 : decode cX6_isSame 48 = .ok (.goto 4, 3) := by decide +kernel
theorem dX6_isSame_51 : decode cX6_isSame 51 = .ok (.iconst 0, 1) := by decide +kernel
theorem dX6_isSame_52 : decode cX6_isSame 52 = .ok (.ireturn, 1) := by decide +kernel
set_option maxHeartbeats 400000 in
set_option maxRecDepth 20000 in
theorem t_X6_isSame (l : Launch) (ad : Nat → Nat) (D : va_G) (cs : Nat → ClassId) (h : Nat → Nat) (σ : Nat → Nat → Int32) (pre post : va_W) (t i : Nat) (q : Nat) (a b x : Int32) (hT : σ 6 0 = nI t) (ht : t ≤ 200) (hi : i ≤ t) (h7 : σ 7 0 = nI (tkK (σ 5) t i)) (h8 : σ 8 0 = nI (tkF (σ 5) t i)) (h9 : σ 9 0 = nI (tkT (σ 5) t i)) (hq : q ≤ 20) : CTi l yX6_isSame cX6_isSame 5 .boolean ({ frames := 1, cells := 0, slots := 0, locals := 21 }) ad D (tysW cs) (pre ++ (wM cs h σ ++ post)) [.ref (h 0), .int (nI q), .int a, .int b, .int x] (bI (smB (σ 5) t i q a b x = true)) (pre ++ (wM cs h σ ++ post)) := by
  refine CTi.of (lv0 := [(0, .ref (h 0)), (1, .int (nI q)), (2, .int a), (3, .int b), (4, .int x)]) (by decide) rfl (Nat.le_of_ble_eq_true rfl) (fun p e s m args below meth c A C hr hlk => ?_)
  have C : Cx p s m args c cX6_isSame 5 RX6 ad D (tysW cs) A := C
  have hk_ := tkK_le (σ 5) t i
  have hf_ := tkF_le (T := σ 5) hi
  have ht_ := tkT_le (T := σ 5) hi
  refine r_aload_n (pc := 0) C 0 dX6_isSame_0 rfl rfl ?_
  refine r_aload_n (pc := 1) C 0 dX6_isSame_1 rfl rfl ?_
  refine mg_from (pc := 2) C fl_RX6_70 dX6_isSame_2 (σ 8 0) rfl ?_
  refine r_eqi (y := nI (tkF (σ 5) t i)) (h8) ?_
  refine r_iload_n (pc := 5) C 1 dX6_isSame_5 rfl rfl ?_
  refine r_iadd (pc := 6) C dX6_isSame_6 ?_
  refine r_eqi (y := nI (tkF (σ 5) t i + q)) (nI_add (tkF (σ 5) t i) q) ?_
  refine rc_Vi (pc := 7) C (t_X6_byteAt' l ad D cs h σ pre post (σ 5) (rfl) (σ 6) (rfl) t (tkF (σ 5) t i + q) hT ht (by omega)) mv_X6_byteAt ml_RX6_73 rfl ⟨Nat.le_of_ble_eq_true rfl, Nat.le_of_ble_eq_true rfl⟩ ⟨rfl, rfl⟩ (q0 := 0) rfl rfl rfl rfl rfl rfl (Nat.le_of_ble_eq_true rfl) dX6_isSame_7 ?_
  refine r_iload_n (pc := 10) C 2 dX6_isSame_10 rfl rfl ?_
  refine r_icmp_ne (pc := 11) C 51 dX6_isSame_11 (by decide) (fun c_1 => ?_) (fun c_1 => ?_)
  · skip
    refine r_iconst (pc := 51) C 0 dX6_isSame_51 (by decide) ?_
    exact r_iret (pc := 52) C hr hlk dX6_isSame_52 rfl (by simp_all [bI, smB]) rfl
  · skip
    refine r_aload_n (pc := 14) C 0 dX6_isSame_14 rfl rfl ?_
    refine r_aload_n (pc := 15) C 0 dX6_isSame_15 rfl rfl ?_
    refine mg_from (pc := 16) C fl_RX6_70 dX6_isSame_16 (σ 8 0) rfl ?_
    refine r_eqi (y := nI (tkF (σ 5) t i)) (h8) ?_
    refine r_iload_n (pc := 19) C 1 dX6_isSame_19 rfl rfl ?_
    refine r_iadd (pc := 20) C dX6_isSame_20 ?_
    refine r_eqi (y := nI (tkF (σ 5) t i + q)) (nI_add (tkF (σ 5) t i) q) ?_
    refine r_iconst (pc := 21) C 1 dX6_isSame_21 (by decide) ?_
    refine r_iadd (pc := 22) C dX6_isSame_22 ?_
    refine r_eqi (y := nI (tkF (σ 5) t i + q + 1)) (nI_add (tkF (σ 5) t i + q) 1) ?_
    refine rc_Vi (pc := 23) C (t_X6_byteAt' l ad D cs h σ pre post (σ 5) (rfl) (σ 6) (rfl) t (tkF (σ 5) t i + q + 1) hT ht (by omega)) mv_X6_byteAt ml_RX6_73 rfl ⟨Nat.le_of_ble_eq_true rfl, Nat.le_of_ble_eq_true rfl⟩ ⟨rfl, rfl⟩ (q0 := 0) rfl rfl rfl rfl rfl rfl (Nat.le_of_ble_eq_true rfl) dX6_isSame_23 ?_
    refine r_iload_n (pc := 26) C 3 dX6_isSame_26 rfl rfl ?_
    refine r_icmp_ne (pc := 27) C 51 dX6_isSame_27 (by decide) (fun c_2 => ?_) (fun c_2 => ?_)
    · skip
      refine r_iconst (pc := 51) C 0 dX6_isSame_51 (by decide) ?_
      exact r_iret (pc := 52) C hr hlk dX6_isSame_52 rfl (by simp_all [bI, smB]) rfl
    · skip
      refine r_aload_n (pc := 30) C 0 dX6_isSame_30 rfl rfl ?_
      refine r_aload_n (pc := 31) C 0 dX6_isSame_31 rfl rfl ?_
      refine mg_from (pc := 32) C fl_RX6_70 dX6_isSame_32 (σ 8 0) rfl ?_
      refine r_eqi (y := nI (tkF (σ 5) t i)) (h8) ?_
      refine r_iload_n (pc := 35) C 1 dX6_isSame_35 rfl rfl ?_
      refine r_iadd (pc := 36) C dX6_isSame_36 ?_
      refine r_eqi (y := nI (tkF (σ 5) t i + q)) (nI_add (tkF (σ 5) t i) q) ?_
      refine r_iconst (pc := 37) C 2 dX6_isSame_37 (by decide) ?_
      refine r_iadd (pc := 38) C dX6_isSame_38 ?_
      refine r_eqi (y := nI (tkF (σ 5) t i + q + 2)) (nI_add (tkF (σ 5) t i + q) 2) ?_
      refine rc_Vi (pc := 39) C (t_X6_byteAt' l ad D cs h σ pre post (σ 5) (rfl) (σ 6) (rfl) t (tkF (σ 5) t i + q + 2) hT ht (by omega)) mv_X6_byteAt ml_RX6_73 rfl ⟨Nat.le_of_ble_eq_true rfl, Nat.le_of_ble_eq_true rfl⟩ ⟨rfl, rfl⟩ (q0 := 0) rfl rfl rfl rfl rfl rfl (Nat.le_of_ble_eq_true rfl) dX6_isSame_39 ?_
      refine r_iload (pc := 42) C 4 dX6_isSame_42 rfl ?_
      refine r_icmp_ne (pc := 44) C 51 dX6_isSame_44 (by decide) (fun c_3 => ?_) (fun c_3 => ?_)
      · skip
        refine r_iconst (pc := 51) C 0 dX6_isSame_51 (by decide) ?_
        exact r_iret (pc := 52) C hr hlk dX6_isSame_52 rfl (by simp_all [bI, smB]) rfl
      · skip
        refine r_iconst (pc := 47) C 1 dX6_isSame_47 (by decide) ?_
        refine r_goto (pc := 48) C 52 dX6_isSame_48 (by decide) ?_
        exact r_iret (pc := 52) C hr hlk dX6_isSame_52 rfl (by simp_all [bI, smB]) rfl
theorem t_X6_isSame' (l : Launch) (ad : Nat → Nat) (D : va_G) (cs : Nat → ClassId) (h : Nat → Nat) (σ : Nat → Nat → Int32) (pre post : va_W) (f5_ : Nat → Int32) (e5_ : σ 5 = f5_) (f6_ : Nat → Int32) (e6_ : σ 6 = f6_) (f7_ : Nat → Int32) (e7_ : σ 7 = f7_) (f8_ : Nat → Int32) (e8_ : σ 8 = f8_) (f9_ : Nat → Int32) (e9_ : σ 9 = f9_) (t i : Nat) (q : Nat) (a b x : Int32) (hT : f6_ 0 = nI t) (ht : t ≤ 200) (hi : i ≤ t) (h7 : f7_ 0 = nI (tkK (f5_) t i)) (h8 : f8_ 0 = nI (tkF (f5_) t i)) (h9 : f9_ 0 = nI (tkT (f5_) t i)) (hq : q ≤ 20) : CTi l yX6_isSame cX6_isSame 5 .boolean ({ frames := 1, cells := 0, slots := 0, locals := 21 }) ad D (tysW cs) (pre ++ (wM cs h σ ++ post)) [.ref (h 0), .int (nI q), .int a, .int b, .int x] (bI (smB (f5_) t i q a b x = true)) (pre ++ (wM cs h σ ++ post)) := by
  subst e5_; subst e6_; subst e7_; subst e8_; subst e9_
  exact t_X6_isSame l ad D cs h σ pre post t i q a b x hT ht hi h7 h8 h9 hq
theorem dX6_isFour_0 : decode cX6_isFour 0 = .ok (.aload_n 0, 1) := by decide +kernel
theorem dX6_isFour_1 : decode cX6_isFour 1 = .ok (.iconst 4, 1) := by decide +kernel
theorem dX6_isFour_2 : decode cX6_isFour 2 = .ok (.iload_n 1, 1) := by decide +kernel
theorem dX6_isFour_3 : decode cX6_isFour 3 = .ok (.iload_n 2, 1) := by decide +kernel
theorem dX6_isFour_4 : decode cX6_isFour 4 = .ok (.iload_n 3, 1) := by decide +kernel
theorem dX6_isFour_5 : decode cX6_isFour 5 = .ok (.iload 4, 2) := by decide +kernel
theorem dX6_isFour_7 : decode cX6_isFour 7 = .ok (.invokevirtual 97, 3) := by decide +kernel
theorem dX6_isFour_10 : decode cX6_isFour 10 = .ok (.ireturn, 1) := by decide +kernel
set_option maxHeartbeats 400000 in
set_option maxRecDepth 20000 in
theorem t_X6_isFour (l : Launch) (ad : Nat → Nat) (D : va_G) (cs : Nat → ClassId) (h : Nat → Nat) (σ : Nat → Nat → Int32) (pre post : va_W) (t i : Nat) (a b x d : Int32) (hT : σ 6 0 = nI t) (ht : t ≤ 200) (hi : i ≤ t) (h7 : σ 7 0 = nI (tkK (σ 5) t i)) (h8 : σ 8 0 = nI (tkF (σ 5) t i)) (h9 : σ 9 0 = nI (tkT (σ 5) t i)) : CTi l yX6_isFour cX6_isFour 5 .boolean ({ frames := 2, cells := 0, slots := 0, locals := 46 }) ad D (tysW cs) (pre ++ (wM cs h σ ++ post)) [.ref (h 0), .int a, .int b, .int x, .int d] (bI (nmB (σ 5) t i 4 a b x d = true)) (pre ++ (wM cs h σ ++ post)) := by
  refine CTi.of (lv0 := [(0, .ref (h 0)), (1, .int a), (2, .int b), (3, .int x), (4, .int d)]) (by decide) rfl (Nat.le_of_ble_eq_true rfl) (fun p e s m args below meth c A C hr hlk => ?_)
  have C : Cx p s m args c cX6_isFour 5 RX6 ad D (tysW cs) A := C
  have hk_ := tkK_le (σ 5) t i
  have hf_ := tkF_le (T := σ 5) hi
  have ht_ := tkT_le (T := σ 5) hi
  refine r_aload_n (pc := 0) C 0 dX6_isFour_0 rfl rfl ?_
  refine r_iconst (pc := 1) C 4 dX6_isFour_1 (by decide) ?_
  refine r_iload_n (pc := 2) C 1 dX6_isFour_2 rfl rfl ?_
  refine r_iload_n (pc := 3) C 2 dX6_isFour_3 rfl rfl ?_
  refine r_iload_n (pc := 4) C 3 dX6_isFour_4 rfl rfl ?_
  refine r_iload (pc := 5) C 4 dX6_isFour_5 rfl ?_
  refine rc_Vi (pc := 7) C (t_X6_isName' l ad D cs h σ pre post (σ 5) (rfl) (σ 6) (rfl) (σ 7) (rfl) (σ 8) (rfl) (σ 9) (rfl) t i 4 a b x d hT ht hi h7 h8 h9 (by omega)) mv_X6_isName ml_RX6_97 rfl ⟨Nat.le_of_ble_eq_true rfl, Nat.le_of_ble_eq_true rfl⟩ ⟨rfl, rfl⟩ (q0 := 0) rfl rfl rfl rfl rfl rfl (Nat.le_of_ble_eq_true rfl) dX6_isFour_7 ?_
  exact r_iret (pc := 10) C hr hlk dX6_isFour_10 bI_nar rfl rfl
theorem t_X6_isFour' (l : Launch) (ad : Nat → Nat) (D : va_G) (cs : Nat → ClassId) (h : Nat → Nat) (σ : Nat → Nat → Int32) (pre post : va_W) (f5_ : Nat → Int32) (e5_ : σ 5 = f5_) (f6_ : Nat → Int32) (e6_ : σ 6 = f6_) (f7_ : Nat → Int32) (e7_ : σ 7 = f7_) (f8_ : Nat → Int32) (e8_ : σ 8 = f8_) (f9_ : Nat → Int32) (e9_ : σ 9 = f9_) (t i : Nat) (a b x d : Int32) (hT : f6_ 0 = nI t) (ht : t ≤ 200) (hi : i ≤ t) (h7 : f7_ 0 = nI (tkK (f5_) t i)) (h8 : f8_ 0 = nI (tkF (f5_) t i)) (h9 : f9_ 0 = nI (tkT (f5_) t i)) : CTi l yX6_isFour cX6_isFour 5 .boolean ({ frames := 2, cells := 0, slots := 0, locals := 46 }) ad D (tysW cs) (pre ++ (wM cs h σ ++ post)) [.ref (h 0), .int a, .int b, .int x, .int d] (bI (nmB (f5_) t i 4 a b x d = true)) (pre ++ (wM cs h σ ++ post)) := by
  subst e5_; subst e6_; subst e7_; subst e8_; subst e9_
  exact t_X6_isFour l ad D cs h σ pre post t i a b x d hT ht hi h7 h8 h9
theorem dX6_isFive_0 : decode cX6_isFive 0 = .ok (.aload_n 0, 1) := by decide +kernel
theorem dX6_isFive_1 : decode cX6_isFive 1 = .ok (.iconst 5, 1) := by decide +kernel
theorem dX6_isFive_2 : decode cX6_isFive 2 = .ok (.iload_n 1, 1) := by decide +kernel
theorem dX6_isFive_3 : decode cX6_isFive 3 = .ok (.iload_n 2, 1) := by decide +kernel
theorem dX6_isFive_4 : decode cX6_isFive 4 = .ok (.iload_n 3, 1) := by decide +kernel
theorem dX6_isFive_5 : decode cX6_isFive 5 = .ok (.iload 5, 2) := by decide +kernel
theorem dX6_isFive_7 : decode cX6_isFive 7 = .ok (.invokevirtual 97, 3) := by decide +kernel
theorem dX6_isFive_10 : decode cX6_isFive 10 = .ok (.ifCond .eq 22, 3) := by decide +kernel
theorem dX6_isFive_13 : decode cX6_isFive 13 = .ok (.aload_n 0, 1) := by decide +kernel
theorem dX6_isFive_14 : decode cX6_isFive 14 = .ok (.aload_n 0, 1) := by decide +kernel
theorem dX6_isFive_15 : decode cX6_isFive 15 = .ok (.getfield 70, 3) := by decide +kernel
theorem dX6_isFive_18 : decode cX6_isFive 18 = .ok (.iconst 3, 1) := by decide +kernel
theorem dX6_isFive_19 : decode cX6_isFive 19 = .ok (.iadd, 1) := by decide +kernel
theorem dX6_isFive_20 : decode cX6_isFive 20 = .ok (.invokevirtual 73, 3) := by decide +kernel
theorem dX6_isFive_23 : decode cX6_isFive 23 = .ok (.iload 4, 2) := by decide +kernel
theorem dX6_isFive_25 : decode cX6_isFive 25 = .ok (.if_icmp .ne 7, 3) := by decide +kernel
theorem dX6_isFive_28 : decode cX6_isFive 28 = .ok (.iconst 1, 1) := by decide +kernel
theorem dX6_isFive_29 : decode cX6_isFive 29 = .ok (.goto 4, 3) := by decide +kernel
theorem dX6_isFive_32 : decode cX6_isFive 32 = .ok (.iconst 0, 1) := by decide +kernel
theorem dX6_isFive_33 : decode cX6_isFive 33 = .ok (.ireturn, 1) := by decide +kernel
set_option maxHeartbeats 400000 in
set_option maxRecDepth 20000 in
theorem t_X6_isFive (l : Launch) (ad : Nat → Nat) (D : va_G) (cs : Nat → ClassId) (h : Nat → Nat) (σ : Nat → Nat → Int32) (pre post : va_W) (t i : Nat) (a b x d f : Int32) (hT : σ 6 0 = nI t) (ht : t ≤ 200) (hi : i ≤ t) (h7 : σ 7 0 = nI (tkK (σ 5) t i)) (h8 : σ 8 0 = nI (tkF (σ 5) t i)) (h9 : σ 9 0 = nI (tkT (σ 5) t i)) : CTi l yX6_isFive cX6_isFive 6 .boolean ({ frames := 2, cells := 0, slots := 0, locals := 46 }) ad D (tysW cs) (pre ++ (wM cs h σ ++ post)) [.ref (h 0), .int a, .int b, .int x, .int d, .int f] (bI (fiB (σ 5) t i a b x d f = true)) (pre ++ (wM cs h σ ++ post)) := by
  refine CTi.of (lv0 := [(0, .ref (h 0)), (1, .int a), (2, .int b), (3, .int x), (4, .int d), (5, .int f)]) (by decide) rfl (Nat.le_of_ble_eq_true rfl) (fun p e s m args below meth c A C hr hlk => ?_)
  have C : Cx p s m args c cX6_isFive 6 RX6 ad D (tysW cs) A := C
  have hk_ := tkK_le (σ 5) t i
  have hf_ := tkF_le (T := σ 5) hi
  have ht_ := tkT_le (T := σ 5) hi
  refine r_aload_n (pc := 0) C 0 dX6_isFive_0 rfl rfl ?_
  refine r_iconst (pc := 1) C 5 dX6_isFive_1 (by decide) ?_
  refine r_iload_n (pc := 2) C 1 dX6_isFive_2 rfl rfl ?_
  refine r_iload_n (pc := 3) C 2 dX6_isFive_3 rfl rfl ?_
  refine r_iload_n (pc := 4) C 3 dX6_isFive_4 rfl rfl ?_
  refine r_iload (pc := 5) C 5 dX6_isFive_5 rfl ?_
  refine rc_Vi (pc := 7) C (t_X6_isName' l ad D cs h σ pre post (σ 5) (rfl) (σ 6) (rfl) (σ 7) (rfl) (σ 8) (rfl) (σ 9) (rfl) t i 5 a b x f hT ht hi h7 h8 h9 (by omega)) mv_X6_isName ml_RX6_97 rfl ⟨Nat.le_of_ble_eq_true rfl, Nat.le_of_ble_eq_true rfl⟩ ⟨rfl, rfl⟩ (q0 := 0) rfl rfl rfl rfl rfl rfl (Nat.le_of_ble_eq_true rfl) dX6_isFive_7 ?_
  refine r_if_eq (pc := 10) C 32 dX6_isFive_10 (by decide) (fun c_1 => ?_) (fun c_1 => ?_)
  · skip
    have c_1 := bI_0.mp c_1
    refine r_iconst (pc := 32) C 0 dX6_isFive_32 (by decide) ?_
    exact r_iret (pc := 33) C hr hlk dX6_isFive_33 rfl (by simp_all [bI, fiB]) rfl
  · skip
    have c_1 := bI_n.mp c_1
    refine r_aload_n (pc := 13) C 0 dX6_isFive_13 rfl rfl ?_
    refine r_aload_n (pc := 14) C 0 dX6_isFive_14 rfl rfl ?_
    refine mg_from (pc := 15) C fl_RX6_70 dX6_isFive_15 (σ 8 0) rfl ?_
    refine r_eqi (y := nI (tkF (σ 5) t i)) (h8) ?_
    refine r_iconst (pc := 18) C 3 dX6_isFive_18 (by decide) ?_
    refine r_iadd (pc := 19) C dX6_isFive_19 ?_
    refine r_eqi (y := nI (tkF (σ 5) t i + 3)) (nI_add (tkF (σ 5) t i) 3) ?_
    refine rc_Vi (pc := 20) C (t_X6_byteAt' l ad D cs h σ pre post (σ 5) (rfl) (σ 6) (rfl) t (tkF (σ 5) t i + 3) hT ht (by omega)) mv_X6_byteAt ml_RX6_73 rfl ⟨Nat.le_of_ble_eq_true rfl, Nat.le_of_ble_eq_true rfl⟩ ⟨rfl, rfl⟩ (q0 := 0) rfl rfl rfl rfl rfl rfl (Nat.le_of_ble_eq_true rfl) dX6_isFive_20 ?_
    refine r_iload (pc := 23) C 4 dX6_isFive_23 rfl ?_
    refine r_icmp_ne (pc := 25) C 32 dX6_isFive_25 (by decide) (fun c_2 => ?_) (fun c_2 => ?_)
    · skip
      refine r_iconst (pc := 32) C 0 dX6_isFive_32 (by decide) ?_
      exact r_iret (pc := 33) C hr hlk dX6_isFive_33 rfl (by simp_all [bI, fiB]) rfl
    · skip
      refine r_iconst (pc := 28) C 1 dX6_isFive_28 (by decide) ?_
      refine r_goto (pc := 29) C 33 dX6_isFive_29 (by decide) ?_
      exact r_iret (pc := 33) C hr hlk dX6_isFive_33 rfl (by simp_all [bI, fiB]) rfl
theorem t_X6_isFive' (l : Launch) (ad : Nat → Nat) (D : va_G) (cs : Nat → ClassId) (h : Nat → Nat) (σ : Nat → Nat → Int32) (pre post : va_W) (f5_ : Nat → Int32) (e5_ : σ 5 = f5_) (f6_ : Nat → Int32) (e6_ : σ 6 = f6_) (f7_ : Nat → Int32) (e7_ : σ 7 = f7_) (f8_ : Nat → Int32) (e8_ : σ 8 = f8_) (f9_ : Nat → Int32) (e9_ : σ 9 = f9_) (t i : Nat) (a b x d f : Int32) (hT : f6_ 0 = nI t) (ht : t ≤ 200) (hi : i ≤ t) (h7 : f7_ 0 = nI (tkK (f5_) t i)) (h8 : f8_ 0 = nI (tkF (f5_) t i)) (h9 : f9_ 0 = nI (tkT (f5_) t i)) : CTi l yX6_isFive cX6_isFive 6 .boolean ({ frames := 2, cells := 0, slots := 0, locals := 46 }) ad D (tysW cs) (pre ++ (wM cs h σ ++ post)) [.ref (h 0), .int a, .int b, .int x, .int d, .int f] (bI (fiB (f5_) t i a b x d f = true)) (pre ++ (wM cs h σ ++ post)) := by
  subst e5_; subst e6_; subst e7_; subst e8_; subst e9_
  exact t_X6_isFive l ad D cs h σ pre post t i a b x d f hT ht hi h7 h8 h9
theorem dX6_kindHere_0 : decode cX6_kindHere 0 = .ok (.aload_n 0, 1) := by decide +kernel
theorem dX6_kindHere_1 : decode cX6_kindHere 1 = .ok (.bipush 98, 2) := by decide +kernel
theorem dX6_kindHere_3 : decode cX6_kindHere 3 = .ok (.bipush 117, 2) := by decide +kernel
theorem dX6_kindHere_5 : decode cX6_kindHere 5 = .ok (.bipush 121, 2) := by decide +kernel
theorem dX6_kindHere_7 : decode cX6_kindHere 7 = .ok (.bipush 101, 2) := by decide +kernel
theorem dX6_kindHere_9 : decode cX6_kindHere 9 = .ok (.bipush 114, 2) := by decide +kernel
theorem dX6_kindHere_11 : decode cX6_kindHere 11 = .ok (.invokevirtual 101, 3) := by decide +kernel
theorem dX6_kindHere_14 : decode cX6_kindHere 14 = .ok (.ifCond .eq 5, 3) := by decide +kernel
theorem dX6_kindHere_17 : decode cX6_kindHere 17 = .ok (.iconst 0, 1) := by decide +kernel
theorem dX6_kindHere_18 : decode cX6_kindHere 18 = .ok (.ireturn, 1) := by decide +kernel
theorem dX6_kindHere_19 : decode cX6_kindHere 19 = .ok (.aload_n 0, 1) := by decide +kernel
theorem dX6_kindHere_20 : decode cX6_kindHere 20 = .ok (.bipush 119, 2) := by decide +kernel
theorem dX6_kindHere_22 : decode cX6_kindHere 22 = .ok (.bipush 105, 2) := by decide +kernel
theorem dX6_kindHere_24 : decode cX6_kindHere 24 = .ok (.bipush 102, 2) := by decide +kernel
theorem dX6_kindHere_26 : decode cX6_kindHere 26 = .ok (.bipush 101, 2) := by decide +kernel
theorem dX6_kindHere_28 : decode cX6_kindHere 28 = .ok (.invokevirtual 104, 3) := by decide +kernel
theorem dX6_kindHere_31 : decode cX6_kindHere 31 = .ok (.ifCond .eq 5, 3) := by decide +kernel
theorem dX6_kindHere_34 : decode cX6_kindHere 34 = .ok (.iconst 1, 1) := by decide +kernel
theorem dX6_kindHere_35 : decode cX6_kindHere 35 = .ok (.ireturn, 1) := by decide +kernel
theorem dX6_kindHere_36 : decode cX6_kindHere 36 = .ok (.aload_n 0, 1) := by decide +kernel
theorem dX6_kindHere_37 : decode cX6_kindHere 37 = .ok (.bipush 10, 2) := by decide +kernel
theorem dX6_kindHere_39 : decode cX6_kindHere 39 = .ok (.bipush 109, 2) := by decide +kernel
theorem dX6_kindHere_41 : decode cX6_kindHere 41 = .ok (.bipush 97, 2) := by decide +kernel
theorem dX6_kindHere_43 : decode cX6_kindHere 43 = .ok (.bipush 103, 2) := by decide +kernel
theorem dX6_kindHere_45 : decode cX6_kindHere 45 = .ok (.bipush 101, 2) := by decide +kernel
theorem dX6_kindHere_47 : decode cX6_kindHere 47 = .ok (.invokevirtual 97, 3) := by decide +kernel
theorem dX6_kindHere_50 : decode cX6_kindHere 50 = .ok (.ifCond .eq 34, 3) := by decide +kernel
theorem dX6_kindHere_53 : decode cX6_kindHere 53 = .ok (.aload_n 0, 1) := by decide +kernel
theorem dX6_kindHere_54 : decode cX6_kindHere 54 = .ok (.iconst 3, 1) := by decide +kernel
theorem dX6_kindHere_55 : decode cX6_kindHere 55 = .ok (.bipush 105, 2) := by decide +kernel
theorem dX6_kindHere_57 : decode cX6_kindHere 57 = .ok (.bipush 115, 2) := by decide +kernel
theorem dX6_kindHere_59 : decode cX6_kindHere 59 = .ok (.bipush 116, 2) := by decide +kernel
theorem dX6_kindHere_61 : decode cX6_kindHere 61 = .ok (.invokevirtual 108, 3) := by decide +kernel
theorem dX6_kindHere_64 : decode cX6_kindHere 64 = .ok (.ifCond .eq 20, 3) := by decide +kernel
theorem dX6_kindHere_67 : decode cX6_kindHere 67 = .ok (.aload_n 0, 1) := by decide +kernel
theorem dX6_kindHere_68 : decode cX6_kindHere 68 = .ok (.bipush 6, 2) := by decide +kernel
theorem dX6_kindHere_70 : decode cX6_kindHere 70 = .ok (.bipush 114, 2) := by decide +kernel
theorem dX6_kindHere_72 : decode cX6_kindHere 72 = .ok (.bipush 97, 2) := by decide +kernel
theorem dX6_kindHere_74 : decode cX6_kindHere 74 = .ok (.bipush 116, 2) := by decide +kernel
theorem dX6_kindHere_76 : decode cX6_kindHere 76 = .ok (.invokevirtual 108, 3) := by decide +kernel
theorem dX6_kindHere_79 : decode cX6_kindHere 79 = .ok (.ifCond .eq 5, 3) := by decide +kernel
theorem dX6_kindHere_82 : decode cX6_kindHere 82 = .ok (.iconst 2, 1) := by decide +kernel
theorem dX6_kindHere_83 : decode cX6_kindHere 83 = .ok (.ireturn, 1) := by decide +kernel
theorem dX6_kindHere_84 : decode cX6_kindHere 84 = .ok (.aload_n 0, 1) := by decide +kernel
theorem dX6_kindHere_85 : decode cX6_kindHere 85 = .ok (.bipush 7, 2) := by decide +kernel
theorem dX6_kindHere_87 : decode cX6_kindHere 87 = .ok (.bipush 107, 2) := by decide +kernel
theorem dX6_kindHere_89 : decode cX6_kindHere 89 = .ok (.bipush 110, 2) := by decide +kernel
theorem dX6_kindHere_91 : decode cX6_kindHere 91 = .ok (.bipush 105, 2) := by decide +kernel
theorem dX6_kindHere_93 : decode cX6_kindHere 93 = .ok (.bipush 114, 2) := by decide +kernel
theorem dX6_kindHere_95 : decode cX6_kindHere 95 = .ok (.invokevirtual 97, 3) := by decide +kernel
theorem dX6_kindHere_98 : decode cX6_kindHere 98 = .ok (.ifCond .eq 19, 3) := by decide +kernel
theorem dX6_kindHere_101 : decode cX6_kindHere 101 = .ok (.aload_n 0, 1) := by decide +kernel
theorem dX6_kindHere_102 : decode cX6_kindHere 102 = .ok (.iconst 3, 1) := by decide +kernel
theorem dX6_kindHere_103 : decode cX6_kindHere 103 = .ok (.bipush 116, 2) := by decide +kernel
theorem dX6_kindHere_105 : decode cX6_kindHere 105 = .ok (.bipush 116, 2) := by decide +kernel
theorem dX6_kindHere_107 : decode cX6_kindHere 107 = .ok (.bipush 101, 2) := by decide +kernel
theorem dX6_kindHere_109 : decode cX6_kindHere 109 = .ok (.invokevirtual 108, 3) := by decide +kernel
theorem dX6_kindHere_112 : decode cX6_kindHere 112 = .ok (.ifCond .eq 5, 3) := by decide +kernel
theorem dX6_kindHere_115 : decode cX6_kindHere 115 = .ok (.iconst 3, 1) := by decide +kernel
theorem dX6_kindHere_116 : decode cX6_kindHere 116 = .ok (.ireturn, 1) := by decide +kernel
theorem dX6_kindHere_117 : decode cX6_kindHere 117 = .ok (.aload_n 0, 1) := by decide +kernel
theorem dX6_kindHere_118 : decode cX6_kindHere 118 = .ok (.bipush 99, 2) := by decide +kernel
theorem dX6_kindHere_120 : decode cX6_kindHere 120 = .ok (.bipush 108, 2) := by decide +kernel
theorem dX6_kindHere_122 : decode cX6_kindHere 122 = .ok (.bipush 101, 2) := by decide +kernel
theorem dX6_kindHere_124 : decode cX6_kindHere 124 = .ok (.bipush 114, 2) := by decide +kernel
theorem dX6_kindHere_126 : decode cX6_kindHere 126 = .ok (.bipush 107, 2) := by decide +kernel
theorem dX6_kindHere_128 : decode cX6_kindHere 128 = .ok (.invokevirtual 101, 3) := by decide +kernel
theorem dX6_kindHere_131 : decode cX6_kindHere 131 = .ok (.ifCond .eq 5, 3) := by decide +kernel
theorem dX6_kindHere_134 : decode cX6_kindHere 134 = .ok (.iconst 4, 1) := by decide +kernel
theorem dX6_kindHere_135 : decode cX6_kindHere 135 = .ok (.ireturn, 1) := by decide +kernel
theorem dX6_kindHere_136 : decode cX6_kindHere 136 = .ok (.aload_n 0, 1) := by decide +kernel
theorem dX6_kindHere_137 : decode cX6_kindHere 137 = .ok (.bipush 117, 2) := by decide +kernel
theorem dX6_kindHere_139 : decode cX6_kindHere 139 = .ok (.bipush 110, 2) := by decide +kernel
theorem dX6_kindHere_141 : decode cX6_kindHere 141 = .ok (.bipush 99, 2) := by decide +kernel
theorem dX6_kindHere_143 : decode cX6_kindHere 143 = .ok (.bipush 108, 2) := by decide +kernel
theorem dX6_kindHere_145 : decode cX6_kindHere 145 = .ok (.bipush 101, 2) := by decide +kernel
theorem dX6_kindHere_147 : decode cX6_kindHere 147 = .ok (.invokevirtual 101, 3) := by decide +kernel
theorem dX6_kindHere_150 : decode cX6_kindHere 150 = .ok (.ifCond .eq 7, 3) := by decide +kernel
theorem dX6_kindHere_153 : decode cX6_kindHere 153 = .ok (.iconst 5, 1) := by decide +kernel
theorem dX6_kindHere_154 : decode cX6_kindHere 154 = .ok (.goto 4, 3) := by decide +kernel
theorem dX6_kindHere_157 : decode cX6_kindHere 157 = .ok (.iconst (-1), 1) := by decide +kernel
theorem dX6_kindHere_158 : decode cX6_kindHere 158 = .ok (.ireturn, 1) := by decide +kernel
set_option maxHeartbeats 400000 in
set_option maxRecDepth 20000 in
theorem t_X6_kindHere (l : Launch) (ad : Nat → Nat) (D : va_G) (cs : Nat → ClassId) (h : Nat → Nat) (σ : Nat → Nat → Int32) (pre post : va_W) (t i : Nat) (hT : σ 6 0 = nI t) (ht : t ≤ 200) (hi : i ≤ t) (h7 : σ 7 0 = nI (tkK (σ 5) t i)) (h8 : σ 8 0 = nI (tkF (σ 5) t i)) (h9 : σ 9 0 = nI (tkT (σ 5) t i)) : CTi l yX6_kindHere cX6_kindHere 1 .int ({ frames := 3, cells := 0, slots := 0, locals := 71 }) ad D (tysW cs) (pre ++ (wM cs h σ ++ post)) [.ref (h 0)] (kiF (σ 5) t i) (pre ++ (wM cs h σ ++ post)) := by
  refine CTi.of (lv0 := [(0, .ref (h 0))]) (by decide) rfl (Nat.le_of_ble_eq_true rfl) (fun p e s m args below meth c A C hr hlk => ?_)
  have C : Cx p s m args c cX6_kindHere 1 RX6 ad D (tysW cs) A := C
  have hk_ := tkK_le (σ 5) t i
  have hf_ := tkF_le (T := σ 5) hi
  have ht_ := tkT_le (T := σ 5) hi
  refine r_aload_n (pc := 0) C 0 dX6_kindHere_0 rfl rfl ?_
  refine r_bipush (pc := 1) C 98 dX6_kindHere_1 (by decide) ?_
  refine r_bipush (pc := 3) C 117 dX6_kindHere_3 (by decide) ?_
  refine r_bipush (pc := 5) C 121 dX6_kindHere_5 (by decide) ?_
  refine r_bipush (pc := 7) C 101 dX6_kindHere_7 (by decide) ?_
  refine r_bipush (pc := 9) C 114 dX6_kindHere_9 (by decide) ?_
  refine rc_Vi (pc := 11) C (t_X6_isFive' l ad D cs h σ pre post (σ 5) (rfl) (σ 6) (rfl) (σ 7) (rfl) (σ 8) (rfl) (σ 9) (rfl) t i (98 : Int32) (117 : Int32) (121 : Int32) (101 : Int32) (114 : Int32) hT ht hi h7 h8 h9) mv_X6_isFive ml_RX6_101 rfl ⟨Nat.le_of_ble_eq_true rfl, Nat.le_of_ble_eq_true rfl⟩ ⟨rfl, rfl⟩ (q0 := 0) rfl rfl rfl rfl rfl rfl (Nat.le_of_ble_eq_true rfl) dX6_kindHere_11 ?_
  refine r_if_eq (pc := 14) C 19 dX6_kindHere_14 (by decide) (fun c_1 => ?_) (fun c_1 => ?_)
  · skip
    have c_1 := bI_0.mp c_1
    refine r_aload_n (pc := 19) C 0 dX6_kindHere_19 rfl rfl ?_
    refine r_bipush (pc := 20) C 119 dX6_kindHere_20 (by decide) ?_
    refine r_bipush (pc := 22) C 105 dX6_kindHere_22 (by decide) ?_
    refine r_bipush (pc := 24) C 102 dX6_kindHere_24 (by decide) ?_
    refine r_bipush (pc := 26) C 101 dX6_kindHere_26 (by decide) ?_
    refine rc_Vi (pc := 28) C (t_X6_isFour' l ad D cs h σ pre post (σ 5) (rfl) (σ 6) (rfl) (σ 7) (rfl) (σ 8) (rfl) (σ 9) (rfl) t i (119 : Int32) (105 : Int32) (102 : Int32) (101 : Int32) hT ht hi h7 h8 h9) mv_X6_isFour ml_RX6_104 rfl ⟨Nat.le_of_ble_eq_true rfl, Nat.le_of_ble_eq_true rfl⟩ ⟨rfl, rfl⟩ (q0 := 0) rfl rfl rfl rfl rfl rfl (Nat.le_of_ble_eq_true rfl) dX6_kindHere_28 ?_
    refine r_if_eq (pc := 31) C 36 dX6_kindHere_31 (by decide) (fun c_2 => ?_) (fun c_2 => ?_)
    · skip
      have c_2 := bI_0.mp c_2
      refine r_aload_n (pc := 36) C 0 dX6_kindHere_36 rfl rfl ?_
      refine r_bipush (pc := 37) C 10 dX6_kindHere_37 (by decide) ?_
      refine r_bipush (pc := 39) C 109 dX6_kindHere_39 (by decide) ?_
      refine r_bipush (pc := 41) C 97 dX6_kindHere_41 (by decide) ?_
      refine r_bipush (pc := 43) C 103 dX6_kindHere_43 (by decide) ?_
      refine r_bipush (pc := 45) C 101 dX6_kindHere_45 (by decide) ?_
      refine rc_Vi (pc := 47) C (t_X6_isName' l ad D cs h σ pre post (σ 5) (rfl) (σ 6) (rfl) (σ 7) (rfl) (σ 8) (rfl) (σ 9) (rfl) t i 10 (109 : Int32) (97 : Int32) (103 : Int32) (101 : Int32) hT ht hi h7 h8 h9 (by omega)) mv_X6_isName ml_RX6_97 rfl ⟨Nat.le_of_ble_eq_true rfl, Nat.le_of_ble_eq_true rfl⟩ ⟨rfl, rfl⟩ (q0 := 0) rfl rfl rfl rfl rfl rfl (Nat.le_of_ble_eq_true rfl) dX6_kindHere_47 ?_
      refine r_if_eq (pc := 50) C 84 dX6_kindHere_50 (by decide) (fun c_3 => ?_) (fun c_3 => ?_)
      · skip
        have c_3 := bI_0.mp c_3
        refine r_aload_n (pc := 84) C 0 dX6_kindHere_84 rfl rfl ?_
        refine r_bipush (pc := 85) C 7 dX6_kindHere_85 (by decide) ?_
        refine r_bipush (pc := 87) C 107 dX6_kindHere_87 (by decide) ?_
        refine r_bipush (pc := 89) C 110 dX6_kindHere_89 (by decide) ?_
        refine r_bipush (pc := 91) C 105 dX6_kindHere_91 (by decide) ?_
        refine r_bipush (pc := 93) C 114 dX6_kindHere_93 (by decide) ?_
        refine rc_Vi (pc := 95) C (t_X6_isName' l ad D cs h σ pre post (σ 5) (rfl) (σ 6) (rfl) (σ 7) (rfl) (σ 8) (rfl) (σ 9) (rfl) t i 7 (107 : Int32) (110 : Int32) (105 : Int32) (114 : Int32) hT ht hi h7 h8 h9 (by omega)) mv_X6_isName ml_RX6_97 rfl ⟨Nat.le_of_ble_eq_true rfl, Nat.le_of_ble_eq_true rfl⟩ ⟨rfl, rfl⟩ (q0 := 0) rfl rfl rfl rfl rfl rfl (Nat.le_of_ble_eq_true rfl) dX6_kindHere_95 ?_
        refine r_if_eq (pc := 98) C 117 dX6_kindHere_98 (by decide) (fun c_4 => ?_) (fun c_4 => ?_)
        · skip
          have c_4 := bI_0.mp c_4
          refine r_aload_n (pc := 117) C 0 dX6_kindHere_117 rfl rfl ?_
          refine r_bipush (pc := 118) C 99 dX6_kindHere_118 (by decide) ?_
          refine r_bipush (pc := 120) C 108 dX6_kindHere_120 (by decide) ?_
          refine r_bipush (pc := 122) C 101 dX6_kindHere_122 (by decide) ?_
          refine r_bipush (pc := 124) C 114 dX6_kindHere_124 (by decide) ?_
          refine r_bipush (pc := 126) C 107 dX6_kindHere_126 (by decide) ?_
          refine rc_Vi (pc := 128) C (t_X6_isFive' l ad D cs h σ pre post (σ 5) (rfl) (σ 6) (rfl) (σ 7) (rfl) (σ 8) (rfl) (σ 9) (rfl) t i (99 : Int32) (108 : Int32) (101 : Int32) (114 : Int32) (107 : Int32) hT ht hi h7 h8 h9) mv_X6_isFive ml_RX6_101 rfl ⟨Nat.le_of_ble_eq_true rfl, Nat.le_of_ble_eq_true rfl⟩ ⟨rfl, rfl⟩ (q0 := 0) rfl rfl rfl rfl rfl rfl (Nat.le_of_ble_eq_true rfl) dX6_kindHere_128 ?_
          refine r_if_eq (pc := 131) C 136 dX6_kindHere_131 (by decide) (fun c_5 => ?_) (fun c_5 => ?_)
          · skip
            have c_5 := bI_0.mp c_5
            refine r_aload_n (pc := 136) C 0 dX6_kindHere_136 rfl rfl ?_
            refine r_bipush (pc := 137) C 117 dX6_kindHere_137 (by decide) ?_
            refine r_bipush (pc := 139) C 110 dX6_kindHere_139 (by decide) ?_
            refine r_bipush (pc := 141) C 99 dX6_kindHere_141 (by decide) ?_
            refine r_bipush (pc := 143) C 108 dX6_kindHere_143 (by decide) ?_
            refine r_bipush (pc := 145) C 101 dX6_kindHere_145 (by decide) ?_
            refine rc_Vi (pc := 147) C (t_X6_isFive' l ad D cs h σ pre post (σ 5) (rfl) (σ 6) (rfl) (σ 7) (rfl) (σ 8) (rfl) (σ 9) (rfl) t i (117 : Int32) (110 : Int32) (99 : Int32) (108 : Int32) (101 : Int32) hT ht hi h7 h8 h9) mv_X6_isFive ml_RX6_101 rfl ⟨Nat.le_of_ble_eq_true rfl, Nat.le_of_ble_eq_true rfl⟩ ⟨rfl, rfl⟩ (q0 := 0) rfl rfl rfl rfl rfl rfl (Nat.le_of_ble_eq_true rfl) dX6_kindHere_147 ?_
            refine r_if_eq (pc := 150) C 157 dX6_kindHere_150 (by decide) (fun c_6 => ?_) (fun c_6 => ?_)
            · skip
              have c_6 := bI_0.mp c_6
              refine r_iconst (pc := 157) C (-1) dX6_kindHere_157 (by decide) ?_
              exact r_iret (pc := 158) C hr hlk dX6_kindHere_158 rfl (by simp [kiF, *]) rfl
            · skip
              have c_6 := bI_n.mp c_6
              refine r_iconst (pc := 153) C 5 dX6_kindHere_153 (by decide) ?_
              refine r_goto (pc := 154) C 158 dX6_kindHere_154 (by decide) ?_
              exact r_iret (pc := 158) C hr hlk dX6_kindHere_158 rfl (by simp [kiF, *]) rfl
          · skip
            have c_5 := bI_n.mp c_5
            refine r_iconst (pc := 134) C 4 dX6_kindHere_134 (by decide) ?_
            exact r_iret (pc := 135) C hr hlk dX6_kindHere_135 rfl (by simp [kiF, *]) rfl
        · skip
          have c_4 := bI_n.mp c_4
          refine r_aload_n (pc := 101) C 0 dX6_kindHere_101 rfl rfl ?_
          refine r_iconst (pc := 102) C 3 dX6_kindHere_102 (by decide) ?_
          refine r_bipush (pc := 103) C 116 dX6_kindHere_103 (by decide) ?_
          refine r_bipush (pc := 105) C 116 dX6_kindHere_105 (by decide) ?_
          refine r_bipush (pc := 107) C 101 dX6_kindHere_107 (by decide) ?_
          refine rc_Vi (pc := 109) C (t_X6_isSame' l ad D cs h σ pre post (σ 5) (rfl) (σ 6) (rfl) (σ 7) (rfl) (σ 8) (rfl) (σ 9) (rfl) t i 3 (116 : Int32) (116 : Int32) (101 : Int32) hT ht hi h7 h8 h9 (by omega)) mv_X6_isSame ml_RX6_108 rfl ⟨Nat.le_of_ble_eq_true rfl, Nat.le_of_ble_eq_true rfl⟩ ⟨rfl, rfl⟩ (q0 := 0) rfl rfl rfl rfl rfl rfl (Nat.le_of_ble_eq_true rfl) dX6_kindHere_109 ?_
          refine r_if_eq (pc := 112) C 117 dX6_kindHere_112 (by decide) (fun c_7 => ?_) (fun c_7 => ?_)
          · skip
            have c_7 := bI_0.mp c_7
            refine r_aload_n (pc := 117) C 0 dX6_kindHere_117 rfl rfl ?_
            refine r_bipush (pc := 118) C 99 dX6_kindHere_118 (by decide) ?_
            refine r_bipush (pc := 120) C 108 dX6_kindHere_120 (by decide) ?_
            refine r_bipush (pc := 122) C 101 dX6_kindHere_122 (by decide) ?_
            refine r_bipush (pc := 124) C 114 dX6_kindHere_124 (by decide) ?_
            refine r_bipush (pc := 126) C 107 dX6_kindHere_126 (by decide) ?_
            refine rc_Vi (pc := 128) C (t_X6_isFive' l ad D cs h σ pre post (σ 5) (rfl) (σ 6) (rfl) (σ 7) (rfl) (σ 8) (rfl) (σ 9) (rfl) t i (99 : Int32) (108 : Int32) (101 : Int32) (114 : Int32) (107 : Int32) hT ht hi h7 h8 h9) mv_X6_isFive ml_RX6_101 rfl ⟨Nat.le_of_ble_eq_true rfl, Nat.le_of_ble_eq_true rfl⟩ ⟨rfl, rfl⟩ (q0 := 0) rfl rfl rfl rfl rfl rfl (Nat.le_of_ble_eq_true rfl) dX6_kindHere_128 ?_
            refine r_if_eq (pc := 131) C 136 dX6_kindHere_131 (by decide) (fun c_8 => ?_) (fun c_8 => ?_)
            · skip
              have c_8 := bI_0.mp c_8
              refine r_aload_n (pc := 136) C 0 dX6_kindHere_136 rfl rfl ?_
              refine r_bipush (pc := 137) C 117 dX6_kindHere_137 (by decide) ?_
              refine r_bipush (pc := 139) C 110 dX6_kindHere_139 (by decide) ?_
              refine r_bipush (pc := 141) C 99 dX6_kindHere_141 (by decide) ?_
              refine r_bipush (pc := 143) C 108 dX6_kindHere_143 (by decide) ?_
              refine r_bipush (pc := 145) C 101 dX6_kindHere_145 (by decide) ?_
              refine rc_Vi (pc := 147) C (t_X6_isFive' l ad D cs h σ pre post (σ 5) (rfl) (σ 6) (rfl) (σ 7) (rfl) (σ 8) (rfl) (σ 9) (rfl) t i (117 : Int32) (110 : Int32) (99 : Int32) (108 : Int32) (101 : Int32) hT ht hi h7 h8 h9) mv_X6_isFive ml_RX6_101 rfl ⟨Nat.le_of_ble_eq_true rfl, Nat.le_of_ble_eq_true rfl⟩ ⟨rfl, rfl⟩ (q0 := 0) rfl rfl rfl rfl rfl rfl (Nat.le_of_ble_eq_true rfl) dX6_kindHere_147 ?_
              refine r_if_eq (pc := 150) C 157 dX6_kindHere_150 (by decide) (fun c_9 => ?_) (fun c_9 => ?_)
              · skip
                have c_9 := bI_0.mp c_9
                refine r_iconst (pc := 157) C (-1) dX6_kindHere_157 (by decide) ?_
                exact r_iret (pc := 158) C hr hlk dX6_kindHere_158 rfl (by simp [kiF, *]) rfl
              · skip
                have c_9 := bI_n.mp c_9
                refine r_iconst (pc := 153) C 5 dX6_kindHere_153 (by decide) ?_
                refine r_goto (pc := 154) C 158 dX6_kindHere_154 (by decide) ?_
                exact r_iret (pc := 158) C hr hlk dX6_kindHere_158 rfl (by simp [kiF, *]) rfl
            · skip
              have c_8 := bI_n.mp c_8
              refine r_iconst (pc := 134) C 4 dX6_kindHere_134 (by decide) ?_
              exact r_iret (pc := 135) C hr hlk dX6_kindHere_135 rfl (by simp [kiF, *]) rfl
          · skip
            have c_7 := bI_n.mp c_7
            refine r_iconst (pc := 115) C 3 dX6_kindHere_115 (by decide) ?_
            exact r_iret (pc := 116) C hr hlk dX6_kindHere_116 rfl (by simp [kiF, *]) rfl
      · skip
        have c_3 := bI_n.mp c_3
        refine r_aload_n (pc := 53) C 0 dX6_kindHere_53 rfl rfl ?_
        refine r_iconst (pc := 54) C 3 dX6_kindHere_54 (by decide) ?_
        refine r_bipush (pc := 55) C 105 dX6_kindHere_55 (by decide) ?_
        refine r_bipush (pc := 57) C 115 dX6_kindHere_57 (by decide) ?_
        refine r_bipush (pc := 59) C 116 dX6_kindHere_59 (by decide) ?_
        refine rc_Vi (pc := 61) C (t_X6_isSame' l ad D cs h σ pre post (σ 5) (rfl) (σ 6) (rfl) (σ 7) (rfl) (σ 8) (rfl) (σ 9) (rfl) t i 3 (105 : Int32) (115 : Int32) (116 : Int32) hT ht hi h7 h8 h9 (by omega)) mv_X6_isSame ml_RX6_108 rfl ⟨Nat.le_of_ble_eq_true rfl, Nat.le_of_ble_eq_true rfl⟩ ⟨rfl, rfl⟩ (q0 := 0) rfl rfl rfl rfl rfl rfl (Nat.le_of_ble_eq_true rfl) dX6_kindHere_61 ?_
        refine r_if_eq (pc := 64) C 84 dX6_kindHere_64 (by decide) (fun c_10 => ?_) (fun c_10 => ?_)
        · skip
          have c_10 := bI_0.mp c_10
          refine r_aload_n (pc := 84) C 0 dX6_kindHere_84 rfl rfl ?_
          refine r_bipush (pc := 85) C 7 dX6_kindHere_85 (by decide) ?_
          refine r_bipush (pc := 87) C 107 dX6_kindHere_87 (by decide) ?_
          refine r_bipush (pc := 89) C 110 dX6_kindHere_89 (by decide) ?_
          refine r_bipush (pc := 91) C 105 dX6_kindHere_91 (by decide) ?_
          refine r_bipush (pc := 93) C 114 dX6_kindHere_93 (by decide) ?_
          refine rc_Vi (pc := 95) C (t_X6_isName' l ad D cs h σ pre post (σ 5) (rfl) (σ 6) (rfl) (σ 7) (rfl) (σ 8) (rfl) (σ 9) (rfl) t i 7 (107 : Int32) (110 : Int32) (105 : Int32) (114 : Int32) hT ht hi h7 h8 h9 (by omega)) mv_X6_isName ml_RX6_97 rfl ⟨Nat.le_of_ble_eq_true rfl, Nat.le_of_ble_eq_true rfl⟩ ⟨rfl, rfl⟩ (q0 := 0) rfl rfl rfl rfl rfl rfl (Nat.le_of_ble_eq_true rfl) dX6_kindHere_95 ?_
          refine r_if_eq (pc := 98) C 117 dX6_kindHere_98 (by decide) (fun c_11 => ?_) (fun c_11 => ?_)
          · skip
            have c_11 := bI_0.mp c_11
            refine r_aload_n (pc := 117) C 0 dX6_kindHere_117 rfl rfl ?_
            refine r_bipush (pc := 118) C 99 dX6_kindHere_118 (by decide) ?_
            refine r_bipush (pc := 120) C 108 dX6_kindHere_120 (by decide) ?_
            refine r_bipush (pc := 122) C 101 dX6_kindHere_122 (by decide) ?_
            refine r_bipush (pc := 124) C 114 dX6_kindHere_124 (by decide) ?_
            refine r_bipush (pc := 126) C 107 dX6_kindHere_126 (by decide) ?_
            refine rc_Vi (pc := 128) C (t_X6_isFive' l ad D cs h σ pre post (σ 5) (rfl) (σ 6) (rfl) (σ 7) (rfl) (σ 8) (rfl) (σ 9) (rfl) t i (99 : Int32) (108 : Int32) (101 : Int32) (114 : Int32) (107 : Int32) hT ht hi h7 h8 h9) mv_X6_isFive ml_RX6_101 rfl ⟨Nat.le_of_ble_eq_true rfl, Nat.le_of_ble_eq_true rfl⟩ ⟨rfl, rfl⟩ (q0 := 0) rfl rfl rfl rfl rfl rfl (Nat.le_of_ble_eq_true rfl) dX6_kindHere_128 ?_
            refine r_if_eq (pc := 131) C 136 dX6_kindHere_131 (by decide) (fun c_12 => ?_) (fun c_12 => ?_)
            · skip
              have c_12 := bI_0.mp c_12
              refine r_aload_n (pc := 136) C 0 dX6_kindHere_136 rfl rfl ?_
              refine r_bipush (pc := 137) C 117 dX6_kindHere_137 (by decide) ?_
              refine r_bipush (pc := 139) C 110 dX6_kindHere_139 (by decide) ?_
              refine r_bipush (pc := 141) C 99 dX6_kindHere_141 (by decide) ?_
              refine r_bipush (pc := 143) C 108 dX6_kindHere_143 (by decide) ?_
              refine r_bipush (pc := 145) C 101 dX6_kindHere_145 (by decide) ?_
              refine rc_Vi (pc := 147) C (t_X6_isFive' l ad D cs h σ pre post (σ 5) (rfl) (σ 6) (rfl) (σ 7) (rfl) (σ 8) (rfl) (σ 9) (rfl) t i (117 : Int32) (110 : Int32) (99 : Int32) (108 : Int32) (101 : Int32) hT ht hi h7 h8 h9) mv_X6_isFive ml_RX6_101 rfl ⟨Nat.le_of_ble_eq_true rfl, Nat.le_of_ble_eq_true rfl⟩ ⟨rfl, rfl⟩ (q0 := 0) rfl rfl rfl rfl rfl rfl (Nat.le_of_ble_eq_true rfl) dX6_kindHere_147 ?_
              refine r_if_eq (pc := 150) C 157 dX6_kindHere_150 (by decide) (fun c_13 => ?_) (fun c_13 => ?_)
              · skip
                have c_13 := bI_0.mp c_13
                refine r_iconst (pc := 157) C (-1) dX6_kindHere_157 (by decide) ?_
                exact r_iret (pc := 158) C hr hlk dX6_kindHere_158 rfl (by simp [kiF, *]) rfl
              · skip
                have c_13 := bI_n.mp c_13
                refine r_iconst (pc := 153) C 5 dX6_kindHere_153 (by decide) ?_
                refine r_goto (pc := 154) C 158 dX6_kindHere_154 (by decide) ?_
                exact r_iret (pc := 158) C hr hlk dX6_kindHere_158 rfl (by simp [kiF, *]) rfl
            · skip
              have c_12 := bI_n.mp c_12
              refine r_iconst (pc := 134) C 4 dX6_kindHere_134 (by decide) ?_
              exact r_iret (pc := 135) C hr hlk dX6_kindHere_135 rfl (by simp [kiF, *]) rfl
          · skip
            have c_11 := bI_n.mp c_11
            refine r_aload_n (pc := 101) C 0 dX6_kindHere_101 rfl rfl ?_
            refine r_iconst (pc := 102) C 3 dX6_kindHere_102 (by decide) ?_
            refine r_bipush (pc := 103) C 116 dX6_kindHere_103 (by decide) ?_
            refine r_bipush (pc := 105) C 116 dX6_kindHere_105 (by decide) ?_
            refine r_bipush (pc := 107) C 101 dX6_kindHere_107 (by decide) ?_
            refine rc_Vi (pc := 109) C (t_X6_isSame' l ad D cs h σ pre post (σ 5) (rfl) (σ 6) (rfl) (σ 7) (rfl) (σ 8) (rfl) (σ 9) (rfl) t i 3 (116 : Int32) (116 : Int32) (101 : Int32) hT ht hi h7 h8 h9 (by omega)) mv_X6_isSame ml_RX6_108 rfl ⟨Nat.le_of_ble_eq_true rfl, Nat.le_of_ble_eq_true rfl⟩ ⟨rfl, rfl⟩ (q0 := 0) rfl rfl rfl rfl rfl rfl (Nat.le_of_ble_eq_true rfl) dX6_kindHere_109 ?_
            refine r_if_eq (pc := 112) C 117 dX6_kindHere_112 (by decide) (fun c_14 => ?_) (fun c_14 => ?_)
            · skip
              have c_14 := bI_0.mp c_14
              refine r_aload_n (pc := 117) C 0 dX6_kindHere_117 rfl rfl ?_
              refine r_bipush (pc := 118) C 99 dX6_kindHere_118 (by decide) ?_
              refine r_bipush (pc := 120) C 108 dX6_kindHere_120 (by decide) ?_
              refine r_bipush (pc := 122) C 101 dX6_kindHere_122 (by decide) ?_
              refine r_bipush (pc := 124) C 114 dX6_kindHere_124 (by decide) ?_
              refine r_bipush (pc := 126) C 107 dX6_kindHere_126 (by decide) ?_
              refine rc_Vi (pc := 128) C (t_X6_isFive' l ad D cs h σ pre post (σ 5) (rfl) (σ 6) (rfl) (σ 7) (rfl) (σ 8) (rfl) (σ 9) (rfl) t i (99 : Int32) (108 : Int32) (101 : Int32) (114 : Int32) (107 : Int32) hT ht hi h7 h8 h9) mv_X6_isFive ml_RX6_101 rfl ⟨Nat.le_of_ble_eq_true rfl, Nat.le_of_ble_eq_true rfl⟩ ⟨rfl, rfl⟩ (q0 := 0) rfl rfl rfl rfl rfl rfl (Nat.le_of_ble_eq_true rfl) dX6_kindHere_128 ?_
              refine r_if_eq (pc := 131) C 136 dX6_kindHere_131 (by decide) (fun c_15 => ?_) (fun c_15 => ?_)
              · skip
                have c_15 := bI_0.mp c_15
                refine r_aload_n (pc := 136) C 0 dX6_kindHere_136 rfl rfl ?_
                refine r_bipush (pc := 137) C 117 dX6_kindHere_137 (by decide) ?_
                refine r_bipush (pc := 139) C 110 dX6_kindHere_139 (by decide) ?_
                refine r_bipush (pc := 141) C 99 dX6_kindHere_141 (by decide) ?_
                refine r_bipush (pc := 143) C 108 dX6_kindHere_143 (by decide) ?_
                refine r_bipush (pc := 145) C 101 dX6_kindHere_145 (by decide) ?_
                refine rc_Vi (pc := 147) C (t_X6_isFive' l ad D cs h σ pre post (σ 5) (rfl) (σ 6) (rfl) (σ 7) (rfl) (σ 8) (rfl) (σ 9) (rfl) t i (117 : Int32) (110 : Int32) (99 : Int32) (108 : Int32) (101 : Int32) hT ht hi h7 h8 h9) mv_X6_isFive ml_RX6_101 rfl ⟨Nat.le_of_ble_eq_true rfl, Nat.le_of_ble_eq_true rfl⟩ ⟨rfl, rfl⟩ (q0 := 0) rfl rfl rfl rfl rfl rfl (Nat.le_of_ble_eq_true rfl) dX6_kindHere_147 ?_
                refine r_if_eq (pc := 150) C 157 dX6_kindHere_150 (by decide) (fun c_16 => ?_) (fun c_16 => ?_)
                · skip
                  have c_16 := bI_0.mp c_16
                  refine r_iconst (pc := 157) C (-1) dX6_kindHere_157 (by decide) ?_
                  exact r_iret (pc := 158) C hr hlk dX6_kindHere_158 rfl (by simp [kiF, *]) rfl
                · skip
                  have c_16 := bI_n.mp c_16
                  refine r_iconst (pc := 153) C 5 dX6_kindHere_153 (by decide) ?_
                  refine r_goto (pc := 154) C 158 dX6_kindHere_154 (by decide) ?_
                  exact r_iret (pc := 158) C hr hlk dX6_kindHere_158 rfl (by simp [kiF, *]) rfl
              · skip
                have c_15 := bI_n.mp c_15
                refine r_iconst (pc := 134) C 4 dX6_kindHere_134 (by decide) ?_
                exact r_iret (pc := 135) C hr hlk dX6_kindHere_135 rfl (by simp [kiF, *]) rfl
            · skip
              have c_14 := bI_n.mp c_14
              refine r_iconst (pc := 115) C 3 dX6_kindHere_115 (by decide) ?_
              exact r_iret (pc := 116) C hr hlk dX6_kindHere_116 rfl (by simp [kiF, *]) rfl
        · skip
          have c_10 := bI_n.mp c_10
          refine r_aload_n (pc := 67) C 0 dX6_kindHere_67 rfl rfl ?_
          refine r_bipush (pc := 68) C 6 dX6_kindHere_68 (by decide) ?_
          refine r_bipush (pc := 70) C 114 dX6_kindHere_70 (by decide) ?_
          refine r_bipush (pc := 72) C 97 dX6_kindHere_72 (by decide) ?_
          refine r_bipush (pc := 74) C 116 dX6_kindHere_74 (by decide) ?_
          refine rc_Vi (pc := 76) C (t_X6_isSame' l ad D cs h σ pre post (σ 5) (rfl) (σ 6) (rfl) (σ 7) (rfl) (σ 8) (rfl) (σ 9) (rfl) t i 6 (114 : Int32) (97 : Int32) (116 : Int32) hT ht hi h7 h8 h9 (by omega)) mv_X6_isSame ml_RX6_108 rfl ⟨Nat.le_of_ble_eq_true rfl, Nat.le_of_ble_eq_true rfl⟩ ⟨rfl, rfl⟩ (q0 := 0) rfl rfl rfl rfl rfl rfl (Nat.le_of_ble_eq_true rfl) dX6_kindHere_76 ?_
          refine r_if_eq (pc := 79) C 84 dX6_kindHere_79 (by decide) (fun c_17 => ?_) (fun c_17 => ?_)
          · skip
            have c_17 := bI_0.mp c_17
            refine r_aload_n (pc := 84) C 0 dX6_kindHere_84 rfl rfl ?_
            refine r_bipush (pc := 85) C 7 dX6_kindHere_85 (by decide) ?_
            refine r_bipush (pc := 87) C 107 dX6_kindHere_87 (by decide) ?_
            refine r_bipush (pc := 89) C 110 dX6_kindHere_89 (by decide) ?_
            refine r_bipush (pc := 91) C 105 dX6_kindHere_91 (by decide) ?_
            refine r_bipush (pc := 93) C 114 dX6_kindHere_93 (by decide) ?_
            refine rc_Vi (pc := 95) C (t_X6_isName' l ad D cs h σ pre post (σ 5) (rfl) (σ 6) (rfl) (σ 7) (rfl) (σ 8) (rfl) (σ 9) (rfl) t i 7 (107 : Int32) (110 : Int32) (105 : Int32) (114 : Int32) hT ht hi h7 h8 h9 (by omega)) mv_X6_isName ml_RX6_97 rfl ⟨Nat.le_of_ble_eq_true rfl, Nat.le_of_ble_eq_true rfl⟩ ⟨rfl, rfl⟩ (q0 := 0) rfl rfl rfl rfl rfl rfl (Nat.le_of_ble_eq_true rfl) dX6_kindHere_95 ?_
            refine r_if_eq (pc := 98) C 117 dX6_kindHere_98 (by decide) (fun c_18 => ?_) (fun c_18 => ?_)
            · skip
              have c_18 := bI_0.mp c_18
              refine r_aload_n (pc := 117) C 0 dX6_kindHere_117 rfl rfl ?_
              refine r_bipush (pc := 118) C 99 dX6_kindHere_118 (by decide) ?_
              refine r_bipush (pc := 120) C 108 dX6_kindHere_120 (by decide) ?_
              refine r_bipush (pc := 122) C 101 dX6_kindHere_122 (by decide) ?_
              refine r_bipush (pc := 124) C 114 dX6_kindHere_124 (by decide) ?_
              refine r_bipush (pc := 126) C 107 dX6_kindHere_126 (by decide) ?_
              refine rc_Vi (pc := 128) C (t_X6_isFive' l ad D cs h σ pre post (σ 5) (rfl) (σ 6) (rfl) (σ 7) (rfl) (σ 8) (rfl) (σ 9) (rfl) t i (99 : Int32) (108 : Int32) (101 : Int32) (114 : Int32) (107 : Int32) hT ht hi h7 h8 h9) mv_X6_isFive ml_RX6_101 rfl ⟨Nat.le_of_ble_eq_true rfl, Nat.le_of_ble_eq_true rfl⟩ ⟨rfl, rfl⟩ (q0 := 0) rfl rfl rfl rfl rfl rfl (Nat.le_of_ble_eq_true rfl) dX6_kindHere_128 ?_
              refine r_if_eq (pc := 131) C 136 dX6_kindHere_131 (by decide) (fun c_19 => ?_) (fun c_19 => ?_)
              · skip
                have c_19 := bI_0.mp c_19
                refine r_aload_n (pc := 136) C 0 dX6_kindHere_136 rfl rfl ?_
                refine r_bipush (pc := 137) C 117 dX6_kindHere_137 (by decide) ?_
                refine r_bipush (pc := 139) C 110 dX6_kindHere_139 (by decide) ?_
                refine r_bipush (pc := 141) C 99 dX6_kindHere_141 (by decide) ?_
                refine r_bipush (pc := 143) C 108 dX6_kindHere_143 (by decide) ?_
                refine r_bipush (pc := 145) C 101 dX6_kindHere_145 (by decide) ?_
                refine rc_Vi (pc := 147) C (t_X6_isFive' l ad D cs h σ pre post (σ 5) (rfl) (σ 6) (rfl) (σ 7) (rfl) (σ 8) (rfl) (σ 9) (rfl) t i (117 : Int32) (110 : Int32) (99 : Int32) (108 : Int32) (101 : Int32) hT ht hi h7 h8 h9) mv_X6_isFive ml_RX6_101 rfl ⟨Nat.le_of_ble_eq_true rfl, Nat.le_of_ble_eq_true rfl⟩ ⟨rfl, rfl⟩ (q0 := 0) rfl rfl rfl rfl rfl rfl (Nat.le_of_ble_eq_true rfl) dX6_kindHere_147 ?_
                refine r_if_eq (pc := 150) C 157 dX6_kindHere_150 (by decide) (fun c_20 => ?_) (fun c_20 => ?_)
                · skip
                  have c_20 := bI_0.mp c_20
                  refine r_iconst (pc := 157) C (-1) dX6_kindHere_157 (by decide) ?_
                  exact r_iret (pc := 158) C hr hlk dX6_kindHere_158 rfl (by simp [kiF, *]) rfl
                · skip
                  have c_20 := bI_n.mp c_20
                  refine r_iconst (pc := 153) C 5 dX6_kindHere_153 (by decide) ?_
                  refine r_goto (pc := 154) C 158 dX6_kindHere_154 (by decide) ?_
                  exact r_iret (pc := 158) C hr hlk dX6_kindHere_158 rfl (by simp [kiF, *]) rfl
              · skip
                have c_19 := bI_n.mp c_19
                refine r_iconst (pc := 134) C 4 dX6_kindHere_134 (by decide) ?_
                exact r_iret (pc := 135) C hr hlk dX6_kindHere_135 rfl (by simp [kiF, *]) rfl
            · skip
              have c_18 := bI_n.mp c_18
              refine r_aload_n (pc := 101) C 0 dX6_kindHere_101 rfl rfl ?_
              refine r_iconst (pc := 102) C 3 dX6_kindHere_102 (by decide) ?_
              refine r_bipush (pc := 103) C 116 dX6_kindHere_103 (by decide) ?_
              refine r_bipush (pc := 105) C 116 dX6_kindHere_105 (by decide) ?_
              refine r_bipush (pc := 107) C 101 dX6_kindHere_107 (by decide) ?_
              refine rc_Vi (pc := 109) C (t_X6_isSame' l ad D cs h σ pre post (σ 5) (rfl) (σ 6) (rfl) (σ 7) (rfl) (σ 8) (rfl) (σ 9) (rfl) t i 3 (116 : Int32) (116 : Int32) (101 : Int32) hT ht hi h7 h8 h9 (by omega)) mv_X6_isSame ml_RX6_108 rfl ⟨Nat.le_of_ble_eq_true rfl, Nat.le_of_ble_eq_true rfl⟩ ⟨rfl, rfl⟩ (q0 := 0) rfl rfl rfl rfl rfl rfl (Nat.le_of_ble_eq_true rfl) dX6_kindHere_109 ?_
              refine r_if_eq (pc := 112) C 117 dX6_kindHere_112 (by decide) (fun c_21 => ?_) (fun c_21 => ?_)
              · skip
                have c_21 := bI_0.mp c_21
                refine r_aload_n (pc := 117) C 0 dX6_kindHere_117 rfl rfl ?_
                refine r_bipush (pc := 118) C 99 dX6_kindHere_118 (by decide) ?_
                refine r_bipush (pc := 120) C 108 dX6_kindHere_120 (by decide) ?_
                refine r_bipush (pc := 122) C 101 dX6_kindHere_122 (by decide) ?_
                refine r_bipush (pc := 124) C 114 dX6_kindHere_124 (by decide) ?_
                refine r_bipush (pc := 126) C 107 dX6_kindHere_126 (by decide) ?_
                refine rc_Vi (pc := 128) C (t_X6_isFive' l ad D cs h σ pre post (σ 5) (rfl) (σ 6) (rfl) (σ 7) (rfl) (σ 8) (rfl) (σ 9) (rfl) t i (99 : Int32) (108 : Int32) (101 : Int32) (114 : Int32) (107 : Int32) hT ht hi h7 h8 h9) mv_X6_isFive ml_RX6_101 rfl ⟨Nat.le_of_ble_eq_true rfl, Nat.le_of_ble_eq_true rfl⟩ ⟨rfl, rfl⟩ (q0 := 0) rfl rfl rfl rfl rfl rfl (Nat.le_of_ble_eq_true rfl) dX6_kindHere_128 ?_
                refine r_if_eq (pc := 131) C 136 dX6_kindHere_131 (by decide) (fun c_22 => ?_) (fun c_22 => ?_)
                · skip
                  have c_22 := bI_0.mp c_22
                  refine r_aload_n (pc := 136) C 0 dX6_kindHere_136 rfl rfl ?_
                  refine r_bipush (pc := 137) C 117 dX6_kindHere_137 (by decide) ?_
                  refine r_bipush (pc := 139) C 110 dX6_kindHere_139 (by decide) ?_
                  refine r_bipush (pc := 141) C 99 dX6_kindHere_141 (by decide) ?_
                  refine r_bipush (pc := 143) C 108 dX6_kindHere_143 (by decide) ?_
                  refine r_bipush (pc := 145) C 101 dX6_kindHere_145 (by decide) ?_
                  refine rc_Vi (pc := 147) C (t_X6_isFive' l ad D cs h σ pre post (σ 5) (rfl) (σ 6) (rfl) (σ 7) (rfl) (σ 8) (rfl) (σ 9) (rfl) t i (117 : Int32) (110 : Int32) (99 : Int32) (108 : Int32) (101 : Int32) hT ht hi h7 h8 h9) mv_X6_isFive ml_RX6_101 rfl ⟨Nat.le_of_ble_eq_true rfl, Nat.le_of_ble_eq_true rfl⟩ ⟨rfl, rfl⟩ (q0 := 0) rfl rfl rfl rfl rfl rfl (Nat.le_of_ble_eq_true rfl) dX6_kindHere_147 ?_
                  refine r_if_eq (pc := 150) C 157 dX6_kindHere_150 (by decide) (fun c_23 => ?_) (fun c_23 => ?_)
                  · skip
                    have c_23 := bI_0.mp c_23
                    refine r_iconst (pc := 157) C (-1) dX6_kindHere_157 (by decide) ?_
                    exact r_iret (pc := 158) C hr hlk dX6_kindHere_158 rfl (by simp [kiF, *]) rfl
                  · skip
                    have c_23 := bI_n.mp c_23
                    refine r_iconst (pc := 153) C 5 dX6_kindHere_153 (by decide) ?_
                    refine r_goto (pc := 154) C 158 dX6_kindHere_154 (by decide) ?_
                    exact r_iret (pc := 158) C hr hlk dX6_kindHere_158 rfl (by simp [kiF, *]) rfl
                · skip
                  have c_22 := bI_n.mp c_22
                  refine r_iconst (pc := 134) C 4 dX6_kindHere_134 (by decide) ?_
                  exact r_iret (pc := 135) C hr hlk dX6_kindHere_135 rfl (by simp [kiF, *]) rfl
              · skip
                have c_21 := bI_n.mp c_21
                refine r_iconst (pc := 115) C 3 dX6_kindHere_115 (by decide) ?_
                exact r_iret (pc := 116) C hr hlk dX6_kindHere_116 rfl (by simp [kiF, *]) rfl
          · skip
            have c_17 := bI_n.mp c_17
            refine r_iconst (pc := 82) C 2 dX6_kindHere_82 (by decide) ?_
            exact r_iret (pc := 83) C hr hlk dX6_kindHere_83 rfl (by simp [kiF, *]) rfl
    · skip
      have c_2 := bI_n.mp c_2
      refine r_iconst (pc := 34) C 1 dX6_kindHere_34 (by decide) ?_
      exact r_iret (pc := 35) C hr hlk dX6_kindHere_35 rfl (by simp [kiF, *]) rfl
  · skip
    have c_1 := bI_n.mp c_1
    refine r_iconst (pc := 17) C 0 dX6_kindHere_17 (by decide) ?_
    exact r_iret (pc := 18) C hr hlk dX6_kindHere_18 rfl (by simp [kiF, *]) rfl
theorem t_X6_kindHere' (l : Launch) (ad : Nat → Nat) (D : va_G) (cs : Nat → ClassId) (h : Nat → Nat) (σ : Nat → Nat → Int32) (pre post : va_W) (f5_ : Nat → Int32) (e5_ : σ 5 = f5_) (f6_ : Nat → Int32) (e6_ : σ 6 = f6_) (f7_ : Nat → Int32) (e7_ : σ 7 = f7_) (f8_ : Nat → Int32) (e8_ : σ 8 = f8_) (f9_ : Nat → Int32) (e9_ : σ 9 = f9_) (t i : Nat) (hT : f6_ 0 = nI t) (ht : t ≤ 200) (hi : i ≤ t) (h7 : f7_ 0 = nI (tkK (f5_) t i)) (h8 : f8_ 0 = nI (tkF (f5_) t i)) (h9 : f9_ 0 = nI (tkT (f5_) t i)) : CTi l yX6_kindHere cX6_kindHere 1 .int ({ frames := 3, cells := 0, slots := 0, locals := 71 }) ad D (tysW cs) (pre ++ (wM cs h σ ++ post)) [.ref (h 0)] (kiF (f5_) t i) (pre ++ (wM cs h σ ++ post)) := by
  subst e5_; subst e6_; subst e7_; subst e8_; subst e9_
  exact t_X6_kindHere l ad D cs h σ pre post t i hT ht hi h7 h8 h9
theorem dX6_lawHere_0 : decode cX6_lawHere 0 = .ok (.aload_n 0, 1) := by decide +kernel
theorem dX6_lawHere_1 : decode cX6_lawHere 1 = .ok (.bipush 119, 2) := by decide +kernel
theorem dX6_lawHere_3 : decode cX6_lawHere 3 = .ok (.bipush 101, 2) := by decide +kernel
theorem dX6_lawHere_5 : decode cX6_lawHere 5 = .ok (.bipush 102, 2) := by decide +kernel
theorem dX6_lawHere_7 : decode cX6_lawHere 7 = .ok (.bipush 116, 2) := by decide +kernel
theorem dX6_lawHere_9 : decode cX6_lawHere 9 = .ok (.invokevirtual 104, 3) := by decide +kernel
theorem dX6_lawHere_12 : decode cX6_lawHere 12 = .ok (.ifCond .eq 5, 3) := by decide +kernel
theorem dX6_lawHere_15 : decode cX6_lawHere 15 = .ok (.iconst 4, 1) := by decide +kernel
theorem dX6_lawHere_16 : decode cX6_lawHere 16 = .ok (.ireturn, 1) := by decide +kernel
theorem dX6_lawHere_17 : decode cX6_lawHere 17 = .ok (.aload_n 0, 1) := by decide +kernel
theorem dX6_lawHere_18 : decode cX6_lawHere 18 = .ok (.bipush 102, 2) := by decide +kernel
theorem dX6_lawHere_20 : decode cX6_lawHere 20 = .ok (.bipush 114, 2) := by decide +kernel
theorem dX6_lawHere_22 : decode cX6_lawHere 22 = .ok (.bipush 97, 2) := by decide +kernel
theorem dX6_lawHere_24 : decode cX6_lawHere 24 = .ok (.bipush 121, 2) := by decide +kernel
theorem dX6_lawHere_26 : decode cX6_lawHere 26 = .ok (.invokevirtual 104, 3) := by decide +kernel
theorem dX6_lawHere_29 : decode cX6_lawHere 29 = .ok (.ifCond .eq 5, 3) := by decide +kernel
theorem dX6_lawHere_32 : decode cX6_lawHere 32 = .ok (.iconst 5, 1) := by decide +kernel
theorem dX6_lawHere_33 : decode cX6_lawHere 33 = .ok (.ireturn, 1) := by decide +kernel
theorem dX6_lawHere_34 : decode cX6_lawHere 34 = .ok (.aload_n 0, 1) := by decide +kernel
theorem dX6_lawHere_35 : decode cX6_lawHere 35 = .ok (.bipush 116, 2) := by decide +kernel
theorem dX6_lawHere_37 : decode cX6_lawHere 37 = .ok (.bipush 111, 2) := by decide +kernel
theorem dX6_lawHere_39 : decode cX6_lawHere 39 = .ok (.bipush 108, 2) := by decide +kernel
theorem dX6_lawHere_41 : decode cX6_lawHere 41 = .ok (.bipush 108, 2) := by decide +kernel
theorem dX6_lawHere_43 : decode cX6_lawHere 43 = .ok (.invokevirtual 104, 3) := by decide +kernel
theorem dX6_lawHere_46 : decode cX6_lawHere 46 = .ok (.ifCond .eq 6, 3) := by decide +kernel
theorem dX6_lawHere_49 : decode cX6_lawHere 49 = .ok (.bipush 6, 2) := by decide +kernel
theorem dX6_lawHere_51 : decode cX6_lawHere 51 = .ok (.ireturn, 1) := by decide +kernel
theorem dX6_lawHere_52 : decode cX6_lawHere 52 = .ok (.aload_n 0, 1) := by decide +kernel
theorem dX6_lawHere_53 : decode cX6_lawHere 53 = .ok (.bipush 115, 2) := by decide +kernel
theorem dX6_lawHere_55 : decode cX6_lawHere 55 = .ok (.bipush 108, 2) := by decide +kernel
theorem dX6_lawHere_57 : decode cX6_lawHere 57 = .ok (.bipush 105, 2) := by decide +kernel
theorem dX6_lawHere_59 : decode cX6_lawHere 59 = .ok (.bipush 112, 2) := by decide +kernel
theorem dX6_lawHere_61 : decode cX6_lawHere 61 = .ok (.invokevirtual 104, 3) := by decide +kernel
theorem dX6_lawHere_64 : decode cX6_lawHere 64 = .ok (.ifCond .eq 8, 3) := by decide +kernel
theorem dX6_lawHere_67 : decode cX6_lawHere 67 = .ok (.bipush 7, 2) := by decide +kernel
theorem dX6_lawHere_69 : decode cX6_lawHere 69 = .ok (.goto 4, 3) := by decide +kernel
theorem dX6_lawHere_72 : decode cX6_lawHere 72 = .ok (.iconst (-1), 1) := by decide +kernel
theorem dX6_lawHere_73 : decode cX6_lawHere 73 = .ok (.ireturn, 1) := by decide +kernel
set_option maxHeartbeats 400000 in
set_option maxRecDepth 20000 in
theorem t_X6_lawHere (l : Launch) (ad : Nat → Nat) (D : va_G) (cs : Nat → ClassId) (h : Nat → Nat) (σ : Nat → Nat → Int32) (pre post : va_W) (t i : Nat) (hT : σ 6 0 = nI t) (ht : t ≤ 200) (hi : i ≤ t) (h7 : σ 7 0 = nI (tkK (σ 5) t i)) (h8 : σ 8 0 = nI (tkF (σ 5) t i)) (h9 : σ 9 0 = nI (tkT (σ 5) t i)) : CTi l yX6_lawHere cX6_lawHere 1 .int ({ frames := 3, cells := 0, slots := 0, locals := 70 }) ad D (tysW cs) (pre ++ (wM cs h σ ++ post)) [.ref (h 0)] (laF (σ 5) t i) (pre ++ (wM cs h σ ++ post)) := by
  refine CTi.of (lv0 := [(0, .ref (h 0))]) (by decide) rfl (Nat.le_of_ble_eq_true rfl) (fun p e s m args below meth c A C hr hlk => ?_)
  have C : Cx p s m args c cX6_lawHere 1 RX6 ad D (tysW cs) A := C
  have hk_ := tkK_le (σ 5) t i
  have hf_ := tkF_le (T := σ 5) hi
  have ht_ := tkT_le (T := σ 5) hi
  refine r_aload_n (pc := 0) C 0 dX6_lawHere_0 rfl rfl ?_
  refine r_bipush (pc := 1) C 119 dX6_lawHere_1 (by decide) ?_
  refine r_bipush (pc := 3) C 101 dX6_lawHere_3 (by decide) ?_
  refine r_bipush (pc := 5) C 102 dX6_lawHere_5 (by decide) ?_
  refine r_bipush (pc := 7) C 116 dX6_lawHere_7 (by decide) ?_
  refine rc_Vi (pc := 9) C (t_X6_isFour' l ad D cs h σ pre post (σ 5) (rfl) (σ 6) (rfl) (σ 7) (rfl) (σ 8) (rfl) (σ 9) (rfl) t i (119 : Int32) (101 : Int32) (102 : Int32) (116 : Int32) hT ht hi h7 h8 h9) mv_X6_isFour ml_RX6_104 rfl ⟨Nat.le_of_ble_eq_true rfl, Nat.le_of_ble_eq_true rfl⟩ ⟨rfl, rfl⟩ (q0 := 0) rfl rfl rfl rfl rfl rfl (Nat.le_of_ble_eq_true rfl) dX6_lawHere_9 ?_
  refine r_if_eq (pc := 12) C 17 dX6_lawHere_12 (by decide) (fun c_1 => ?_) (fun c_1 => ?_)
  · skip
    have c_1 := bI_0.mp c_1
    refine r_aload_n (pc := 17) C 0 dX6_lawHere_17 rfl rfl ?_
    refine r_bipush (pc := 18) C 102 dX6_lawHere_18 (by decide) ?_
    refine r_bipush (pc := 20) C 114 dX6_lawHere_20 (by decide) ?_
    refine r_bipush (pc := 22) C 97 dX6_lawHere_22 (by decide) ?_
    refine r_bipush (pc := 24) C 121 dX6_lawHere_24 (by decide) ?_
    refine rc_Vi (pc := 26) C (t_X6_isFour' l ad D cs h σ pre post (σ 5) (rfl) (σ 6) (rfl) (σ 7) (rfl) (σ 8) (rfl) (σ 9) (rfl) t i (102 : Int32) (114 : Int32) (97 : Int32) (121 : Int32) hT ht hi h7 h8 h9) mv_X6_isFour ml_RX6_104 rfl ⟨Nat.le_of_ble_eq_true rfl, Nat.le_of_ble_eq_true rfl⟩ ⟨rfl, rfl⟩ (q0 := 0) rfl rfl rfl rfl rfl rfl (Nat.le_of_ble_eq_true rfl) dX6_lawHere_26 ?_
    refine r_if_eq (pc := 29) C 34 dX6_lawHere_29 (by decide) (fun c_2 => ?_) (fun c_2 => ?_)
    · skip
      have c_2 := bI_0.mp c_2
      refine r_aload_n (pc := 34) C 0 dX6_lawHere_34 rfl rfl ?_
      refine r_bipush (pc := 35) C 116 dX6_lawHere_35 (by decide) ?_
      refine r_bipush (pc := 37) C 111 dX6_lawHere_37 (by decide) ?_
      refine r_bipush (pc := 39) C 108 dX6_lawHere_39 (by decide) ?_
      refine r_bipush (pc := 41) C 108 dX6_lawHere_41 (by decide) ?_
      refine rc_Vi (pc := 43) C (t_X6_isFour' l ad D cs h σ pre post (σ 5) (rfl) (σ 6) (rfl) (σ 7) (rfl) (σ 8) (rfl) (σ 9) (rfl) t i (116 : Int32) (111 : Int32) (108 : Int32) (108 : Int32) hT ht hi h7 h8 h9) mv_X6_isFour ml_RX6_104 rfl ⟨Nat.le_of_ble_eq_true rfl, Nat.le_of_ble_eq_true rfl⟩ ⟨rfl, rfl⟩ (q0 := 0) rfl rfl rfl rfl rfl rfl (Nat.le_of_ble_eq_true rfl) dX6_lawHere_43 ?_
      refine r_if_eq (pc := 46) C 52 dX6_lawHere_46 (by decide) (fun c_3 => ?_) (fun c_3 => ?_)
      · skip
        have c_3 := bI_0.mp c_3
        refine r_aload_n (pc := 52) C 0 dX6_lawHere_52 rfl rfl ?_
        refine r_bipush (pc := 53) C 115 dX6_lawHere_53 (by decide) ?_
        refine r_bipush (pc := 55) C 108 dX6_lawHere_55 (by decide) ?_
        refine r_bipush (pc := 57) C 105 dX6_lawHere_57 (by decide) ?_
        refine r_bipush (pc := 59) C 112 dX6_lawHere_59 (by decide) ?_
        refine rc_Vi (pc := 61) C (t_X6_isFour' l ad D cs h σ pre post (σ 5) (rfl) (σ 6) (rfl) (σ 7) (rfl) (σ 8) (rfl) (σ 9) (rfl) t i (115 : Int32) (108 : Int32) (105 : Int32) (112 : Int32) hT ht hi h7 h8 h9) mv_X6_isFour ml_RX6_104 rfl ⟨Nat.le_of_ble_eq_true rfl, Nat.le_of_ble_eq_true rfl⟩ ⟨rfl, rfl⟩ (q0 := 0) rfl rfl rfl rfl rfl rfl (Nat.le_of_ble_eq_true rfl) dX6_lawHere_61 ?_
        refine r_if_eq (pc := 64) C 72 dX6_lawHere_64 (by decide) (fun c_4 => ?_) (fun c_4 => ?_)
        · skip
          have c_4 := bI_0.mp c_4
          refine r_iconst (pc := 72) C (-1) dX6_lawHere_72 (by decide) ?_
          exact r_iret (pc := 73) C hr hlk dX6_lawHere_73 rfl (by simp [laF, *]) rfl
        · skip
          have c_4 := bI_n.mp c_4
          refine r_bipush (pc := 67) C 7 dX6_lawHere_67 (by decide) ?_
          refine r_goto (pc := 69) C 73 dX6_lawHere_69 (by decide) ?_
          exact r_iret (pc := 73) C hr hlk dX6_lawHere_73 rfl (by simp [laF, *]) rfl
      · skip
        have c_3 := bI_n.mp c_3
        refine r_bipush (pc := 49) C 6 dX6_lawHere_49 (by decide) ?_
        exact r_iret (pc := 51) C hr hlk dX6_lawHere_51 rfl (by simp [laF, *]) rfl
    · skip
      have c_2 := bI_n.mp c_2
      refine r_iconst (pc := 32) C 5 dX6_lawHere_32 (by decide) ?_
      exact r_iret (pc := 33) C hr hlk dX6_lawHere_33 rfl (by simp [laF, *]) rfl
  · skip
    have c_1 := bI_n.mp c_1
    refine r_iconst (pc := 15) C 4 dX6_lawHere_15 (by decide) ?_
    exact r_iret (pc := 16) C hr hlk dX6_lawHere_16 rfl (by simp [laF, *]) rfl
theorem t_X6_lawHere' (l : Launch) (ad : Nat → Nat) (D : va_G) (cs : Nat → ClassId) (h : Nat → Nat) (σ : Nat → Nat → Int32) (pre post : va_W) (f5_ : Nat → Int32) (e5_ : σ 5 = f5_) (f6_ : Nat → Int32) (e6_ : σ 6 = f6_) (f7_ : Nat → Int32) (e7_ : σ 7 = f7_) (f8_ : Nat → Int32) (e8_ : σ 8 = f8_) (f9_ : Nat → Int32) (e9_ : σ 9 = f9_) (t i : Nat) (hT : f6_ 0 = nI t) (ht : t ≤ 200) (hi : i ≤ t) (h7 : f7_ 0 = nI (tkK (f5_) t i)) (h8 : f8_ 0 = nI (tkF (f5_) t i)) (h9 : f9_ 0 = nI (tkT (f5_) t i)) : CTi l yX6_lawHere cX6_lawHere 1 .int ({ frames := 3, cells := 0, slots := 0, locals := 70 }) ad D (tysW cs) (pre ++ (wM cs h σ ++ post)) [.ref (h 0)] (laF (f5_) t i) (pre ++ (wM cs h σ ++ post)) := by
  subst e5_; subst e6_; subst e7_; subst e8_; subst e9_
  exact t_X6_lawHere l ad D cs h σ pre post t i hT ht hi h7 h8 h9
theorem dX6_needs_0 : decode cX6_needs 0 = .ok (.aload_n 0, 1) := by decide +kernel
theorem dX6_needs_1 : decode cX6_needs 1 = .ok (.aload_n 0, 1) := by decide +kernel
theorem dX6_needs_2 : decode cX6_needs 2 = .ok (.getfield 90, 3) := by decide +kernel
theorem dX6_needs_5 : decode cX6_needs 5 = .ok (.ifCond .ne 7, 3) := by decide +kernel
theorem dX6_needs_8 : decode cX6_needs 8 = .ok (.iload_n 1, 1) := by decide +kernel
theorem dX6_needs_9 : decode cX6_needs 9 = .ok (.ifCond .ne 7, 3) := by decide +kernel
theorem dX6_needs_12 : decode cX6_needs 12 = .ok (.iconst 1, 1) := by decide +kernel
theorem dX6_needs_13 : decode cX6_needs 13 = .ok (.goto 4, 3) := by decide +kernel
theorem dX6_needs_16 : decode cX6_needs 16 = .ok (.iconst 0, 1) := by decide +kernel
theorem dX6_needs_17 : decode cX6_needs 17 = .ok (.putfield 90, 3) := by decide +kernel
theorem dX6_needs_20 : decode cX6_needs 20 = .ok (.aload_n 0, 1) := by decide +kernel
theorem dX6_needs_21 : decode cX6_needs 21 = .ok (.getfield 90, 3) := by decide +kernel
theorem dX6_needs_24 : decode cX6_needs 24 = .ok (.ifCond .ne 7, 3) := by decide +kernel
theorem dX6_needs_27 : decode cX6_needs 27 = .ok (.aload_n 0, 1) := by decide +kernel
theorem dX6_needs_28 : decode cX6_needs 28 = .ok (.invokevirtual 94, 3) := by decide +kernel
theorem dX6_needs_31 : decode cX6_needs 31 = .ok (.return_, 1) := by decide +kernel
set_option maxHeartbeats 400000 in
set_option maxRecDepth 20000 in
theorem t_X6_needs (l : Launch) (ad : Nat → Nat) (D : va_G) (cs : Nat → ClassId) (h : Nat → Nat) (σ : Nat → Nat → Int32) (pre post : va_W) (t : Nat) (b : Bool) (S : PS) (hT : σ 6 0 = nI t) (ht : t ≤ 200) (hi : S.2.1 ≤ t) (h0 : σ 0 = S.2.2) (h7 : σ 7 0 = nI (tkK (σ 5) t S.2.1)) (h8 : σ 8 0 = nI (tkF (σ 5) t S.2.1)) (h9 : σ 9 0 = nI (tkT (σ 5) t S.2.1)) (h10 : σ 10 0 = tkV (σ 5) t S.2.1) (h11 : σ 11 0 = bI (S.1 = true)) : CTv l yX6_needs cX6_needs 2 ({ frames := 2, cells := 0, slots := 0, locals := 42 }) ad D (tysW cs) (pre ++ (wM cs h σ ++ post)) [.ref (h 0), .int (bI (b = true))] (pre ++ (wM cs h (su (su (su (su (su (su σ 0 ((ndS (σ 5) t b S).2.2)) 7 (fun _ => nI (tkK (σ 5) t (ndS (σ 5) t b S).2.1))) 8 (fun _ => nI (tkF (σ 5) t (ndS (σ 5) t b S).2.1))) 9 (fun _ => nI (tkT (σ 5) t (ndS (σ 5) t b S).2.1))) 10 (fun _ => tkV (σ 5) t (ndS (σ 5) t b S).2.1)) 11 (fun _ => bI ((ndS (σ 5) t b S).1 = true))) ++ post)) := by
  refine CTv.of (lv0 := [(0, .ref (h 0)), (1, .int (bI (b = true)))]) (by decide) rfl (Nat.le_of_ble_eq_true rfl) (fun p e s m args below meth c A C hr hlk => ?_)
  have C : Cx p s m args c cX6_needs 2 RX6 ad D (tysW cs) A := C
  have hk_ := tkK_le (σ 5) t S.2.1
  have hf_ := tkF_le (T := σ 5) hi
  have ht_ := tkT_le (T := σ 5) hi
  refine r_blk (blk' := wM cs h (su (su (su (su (su (su σ 0 S.2.2) 7 (fun _ => nI (tkK (σ 5) t S.2.1))) 8 (fun _ => nI (tkF (σ 5) t S.2.1))) 9 (fun _ => nI (tkT (σ 5) t S.2.1))) 10 (fun _ => tkV (σ 5) t S.2.1)) 11 (fun _ => bI (S.1 = true)))) (by rw [← h0, ← h7, ← h8, ← h9, ← h10, ← h11] <;> rfl) ?_
  refine r_aload_n (pc := 0) C 0 dX6_needs_0 rfl rfl ?_
  refine r_aload_n (pc := 1) C 0 dX6_needs_1 rfl rfl ?_
  refine mg_isWrong (pc := 2) C fl_RX6_90 dX6_needs_2 (bI (S.1 = true)) (congrFun (su_at) 0) ?_
  refine r_if_ne (pc := 5) C 12 dX6_needs_5 (by decide) (fun c_1 => ?_) (fun c_1 => ?_)
  · skip
    have c_1 := bI_n.mp c_1
    refine r_iconst (pc := 12) C 1 dX6_needs_12 (by decide) ?_
    refine r_goto (pc := 13) C 17 dX6_needs_13 (by decide) ?_
    refine mp_isWrong (pc := 17) C fl_RX6_90 dX6_needs_17 rfl rfl ?_
    refine r_blk (blk' := wM cs h (su (su (su (su (su (su σ 0 S.2.2) 7 (fun _ => nI (tkK (σ 5) t S.2.1))) 8 (fun _ => nI (tkF (σ 5) t S.2.1))) 9 (fun _ => nI (tkT (σ 5) t S.2.1))) 10 (fun _ => tkV (σ 5) t S.2.1)) 11 (fun _ => 1))) (congrArg (wM cs h) (by rw [su_su])) ?_
    refine r_aload_n (pc := 20) C 0 dX6_needs_20 rfl rfl ?_
    refine mg_isWrong (pc := 21) C fl_RX6_90 dX6_needs_21 1 (congrFun (su_at) 0) ?_
    refine r_if_ne (pc := 24) C 31 dX6_needs_24 (by decide) (fun c_2 => ?_) (fun c_2 => ?_)
    · skip
      revert c_2; intro c_2
      exact r_vret (pc := 31) C hr hlk dX6_needs_31 (by rw [show ndS (σ 5) t b S = (true, S.2) from by simp [ndS, *]] <;> rfl)
    · skip
      revert c_2; intro c_2
      exact absurd c_2 (by decide)
  · skip
    have c_1 := bI_0.mp c_1
    refine r_iload_n (pc := 8) C 1 dX6_needs_8 rfl rfl ?_
    refine r_if_ne (pc := 9) C 16 dX6_needs_9 (by decide) (fun c_3 => ?_) (fun c_3 => ?_)
    · skip
      have c_3 := bI_n.mp c_3
      refine r_iconst (pc := 16) C 0 dX6_needs_16 (by decide) ?_
      refine mp_isWrong (pc := 17) C fl_RX6_90 dX6_needs_17 rfl rfl ?_
      refine r_blk (blk' := wM cs h (su (su (su (su (su (su σ 0 S.2.2) 7 (fun _ => nI (tkK (σ 5) t S.2.1))) 8 (fun _ => nI (tkF (σ 5) t S.2.1))) 9 (fun _ => nI (tkT (σ 5) t S.2.1))) 10 (fun _ => tkV (σ 5) t S.2.1)) 11 (fun _ => 0))) (congrArg (wM cs h) (by rw [su_su])) ?_
      refine r_aload_n (pc := 20) C 0 dX6_needs_20 rfl rfl ?_
      refine mg_isWrong (pc := 21) C fl_RX6_90 dX6_needs_21 0 (congrFun (su_at) 0) ?_
      refine r_if_ne (pc := 24) C 31 dX6_needs_24 (by decide) (fun c_4 => ?_) (fun c_4 => ?_)
      · skip
        revert c_4; intro c_4
        exact absurd c_4 (by decide)
      · skip
        revert c_4; intro c_4
        refine r_aload_n (pc := 27) C 0 dX6_needs_27 rfl rfl ?_
        refine rc_Vv (pc := 28) C (t_X6_nextToken' l ad D cs h (su (su (su (su (su (su σ 0 S.2.2) 7 (fun _ => nI (tkK (σ 5) t S.2.1))) 8 (fun _ => nI (tkF (σ 5) t S.2.1))) 9 (fun _ => nI (tkT (σ 5) t S.2.1))) 10 (fun _ => tkV (σ 5) t S.2.1)) 11 (fun _ => 0)) pre post (σ 5) (((((((su_nn (by decide)).trans (su_nn (by decide))).trans (su_nn (by decide))).trans (su_nn (by decide))).trans (su_nn (by decide))).trans (su_nn (by decide)))) (σ 6) (((((((su_nn (by decide)).trans (su_nn (by decide))).trans (su_nn (by decide))).trans (su_nn (by decide))).trans (su_nn (by decide))).trans (su_nn (by decide)))) (fun _ => nI (tkT (σ 5) t S.2.1)) (((su_nn (by decide)).trans (su_nn (by decide))).trans su_at) t (tkT (σ 5) t S.2.1) hT ht rfl (ht_.2)) mv_X6_nextToken ml_RX6_94 rfl ⟨Nat.le_of_ble_eq_true rfl, Nat.le_of_ble_eq_true rfl⟩ ⟨rfl, rfl⟩ (q0 := 0) rfl rfl rfl rfl rfl rfl (Nat.le_of_ble_eq_true rfl) dX6_needs_28 ?_
        refine r_blk (blk' := wM cs h (su (su (su (su (su (su σ 0 S.2.2) 7 (fun _ => nI (tkK (σ 5) t (tkT (σ 5) t S.2.1)))) 8 (fun _ => nI (tkF (σ 5) t (tkT (σ 5) t S.2.1)))) 9 (fun _ => nI (tkT (σ 5) t (tkT (σ 5) t S.2.1)))) 10 (fun _ => tkV (σ 5) t (tkT (σ 5) t S.2.1))) 11 (fun _ => 0))) (congrArg (wM cs h) (by rw [su_cm (k := 11) (j := 7) (by decide), su_cm (k := 10) (j := 7) (by decide), su_cm (k := 9) (j := 7) (by decide), su_cm (k := 8) (j := 7) (by decide), su_su (k := 7), su_cm (k := 11) (j := 8) (by decide), su_cm (k := 10) (j := 8) (by decide), su_cm (k := 9) (j := 8) (by decide), su_su (k := 8), su_cm (k := 11) (j := 9) (by decide), su_cm (k := 10) (j := 9) (by decide), su_su (k := 9), su_cm (k := 11) (j := 10) (by decide), su_su (k := 10)])) ?_
        exact r_vret (pc := 31) C hr hlk dX6_needs_31 (by rw [show ndS (σ 5) t b S = (false, tkT (σ 5) t S.2.1, S.2.2) from by simp [ndS, *]] <;> rfl)
    · skip
      have c_3 := bI_0.mp c_3
      refine r_iconst (pc := 12) C 1 dX6_needs_12 (by decide) ?_
      refine r_goto (pc := 13) C 17 dX6_needs_13 (by decide) ?_
      refine mp_isWrong (pc := 17) C fl_RX6_90 dX6_needs_17 rfl rfl ?_
      refine r_blk (blk' := wM cs h (su (su (su (su (su (su σ 0 S.2.2) 7 (fun _ => nI (tkK (σ 5) t S.2.1))) 8 (fun _ => nI (tkF (σ 5) t S.2.1))) 9 (fun _ => nI (tkT (σ 5) t S.2.1))) 10 (fun _ => tkV (σ 5) t S.2.1)) 11 (fun _ => 1))) (congrArg (wM cs h) (by rw [su_su])) ?_
      refine r_aload_n (pc := 20) C 0 dX6_needs_20 rfl rfl ?_
      refine mg_isWrong (pc := 21) C fl_RX6_90 dX6_needs_21 1 (congrFun (su_at) 0) ?_
      refine r_if_ne (pc := 24) C 31 dX6_needs_24 (by decide) (fun c_5 => ?_) (fun c_5 => ?_)
      · skip
        revert c_5; intro c_5
        exact r_vret (pc := 31) C hr hlk dX6_needs_31 (by rw [show ndS (σ 5) t b S = (true, S.2) from by simp [ndS, *]] <;> rfl)
      · skip
        revert c_5; intro c_5
        exact absurd c_5 (by decide)
theorem t_X6_needs' (l : Launch) (ad : Nat → Nat) (D : va_G) (cs : Nat → ClassId) (h : Nat → Nat) (σ : Nat → Nat → Int32) (pre post : va_W) (f0_ : Nat → Int32) (e0_ : σ 0 = f0_) (f5_ : Nat → Int32) (e5_ : σ 5 = f5_) (f6_ : Nat → Int32) (e6_ : σ 6 = f6_) (f7_ : Nat → Int32) (e7_ : σ 7 = f7_) (f8_ : Nat → Int32) (e8_ : σ 8 = f8_) (f9_ : Nat → Int32) (e9_ : σ 9 = f9_) (f10_ : Nat → Int32) (e10_ : σ 10 = f10_) (f11_ : Nat → Int32) (e11_ : σ 11 = f11_) (t : Nat) (b : Bool) (S : PS) (hT : f6_ 0 = nI t) (ht : t ≤ 200) (hi : S.2.1 ≤ t) (h0 : f0_ = S.2.2) (h7 : f7_ 0 = nI (tkK (f5_) t S.2.1)) (h8 : f8_ 0 = nI (tkF (f5_) t S.2.1)) (h9 : f9_ 0 = nI (tkT (f5_) t S.2.1)) (h10 : f10_ 0 = tkV (f5_) t S.2.1) (h11 : f11_ 0 = bI (S.1 = true)) : CTv l yX6_needs cX6_needs 2 ({ frames := 2, cells := 0, slots := 0, locals := 42 }) ad D (tysW cs) (pre ++ (wM cs h σ ++ post)) [.ref (h 0), .int (bI (b = true))] (pre ++ (wM cs h (su (su (su (su (su (su σ 0 ((ndS (f5_) t b S).2.2)) 7 (fun _ => nI (tkK (f5_) t (ndS (f5_) t b S).2.1))) 8 (fun _ => nI (tkF (f5_) t (ndS (f5_) t b S).2.1))) 9 (fun _ => nI (tkT (f5_) t (ndS (f5_) t b S).2.1))) 10 (fun _ => tkV (f5_) t (ndS (f5_) t b S).2.1)) 11 (fun _ => bI ((ndS (f5_) t b S).1 = true))) ++ post)) := by
  subst e0_; subst e5_; subst e6_; subst e7_; subst e8_; subst e9_; subst e10_; subst e11_
  exact t_X6_needs l ad D cs h σ pre post t b S hT ht hi h0 h7 h8 h9 h10 h11
theorem dX6_numberTo_0 : decode cX6_numberTo 0 = .ok (.aload_n 0, 1) := by decide +kernel
theorem dX6_numberTo_1 : decode cX6_numberTo 1 = .ok (.getfield 84, 3) := by decide +kernel
theorem dX6_numberTo_4 : decode cX6_numberTo 4 = .ok (.iconst 2, 1) := by decide +kernel
theorem dX6_numberTo_5 : decode cX6_numberTo 5 = .ok (.if_icmp .ne 28, 3) := by decide +kernel
theorem dX6_numberTo_8 : decode cX6_numberTo 8 = .ok (.aload_n 0, 1) := by decide +kernel
theorem dX6_numberTo_9 : decode cX6_numberTo 9 = .ok (.getfield 67, 3) := by decide +kernel
theorem dX6_numberTo_12 : decode cX6_numberTo 12 = .ok (.aload_n 0, 1) := by decide +kernel
theorem dX6_numberTo_13 : decode cX6_numberTo 13 = .ok (.getfield 70, 3) := by decide +kernel
theorem dX6_numberTo_16 : decode cX6_numberTo 16 = .ok (.isub, 1) := by decide +kernel
theorem dX6_numberTo_17 : decode cX6_numberTo 17 = .ok (.iconst 3, 1) := by decide +kernel
theorem dX6_numberTo_18 : decode cX6_numberTo 18 = .ok (.if_icmp .gt 15, 3) := by decide +kernel
theorem dX6_numberTo_21 : decode cX6_numberTo 21 = .ok (.aload_n 0, 1) := by decide +kernel
theorem dX6_numberTo_22 : decode cX6_numberTo 22 = .ok (.getfield 87, 3) := by decide +kernel
theorem dX6_numberTo_25 : decode cX6_numberTo 25 = .ok (.iload_n 2, 1) := by decide +kernel
theorem dX6_numberTo_26 : decode cX6_numberTo 26 = .ok (.if_icmp .gt 7, 3) := by decide +kernel
theorem dX6_numberTo_29 : decode cX6_numberTo 29 = .ok (.iconst 1, 1) := by decide +kernel
theorem dX6_numberTo_30 : decode cX6_numberTo 30 = .ok (.goto 4, 3) := by decide +kernel
theorem dX6_numberTo_33 : decode cX6_numberTo 33 = .ok (.iconst 0, 1) := by decide +kernel
theorem dX6_numberTo_34 : decode cX6_numberTo 34 = .ok (.istore_n 3, 1) := by decide +kernel
theorem dX6_numberTo_35 : decode cX6_numberTo 35 = .ok (.iload_n 3, 1) := by decide +kernel
theorem dX6_numberTo_36 : decode cX6_numberTo 36 = .ok (.ifCond .eq 20, 3) := by decide +kernel
theorem dX6_numberTo_39 : decode cX6_numberTo 39 = .ok (.aload_n 0, 1) := by decide +kernel
theorem dX6_numberTo_40 : decode cX6_numberTo 40 = .ok (.getfield 90, 3) := by decide +kernel
theorem dX6_numberTo_43 : decode cX6_numberTo 43 = .ok (.ifCond .ne 13, 3) := by decide +kernel
theorem dX6_numberTo_46 : decode cX6_numberTo 46 = .ok (.aload_n 0, 1) := by decide +kernel
theorem dX6_numberTo_47 : decode cX6_numberTo 47 = .ok (.getfield 7, 3) := by decide +kernel
theorem dX6_numberTo_50 : decode cX6_numberTo 50 = .ok (.iload_n 1, 1) := by decide +kernel
theorem dX6_numberTo_51 : decode cX6_numberTo 51 = .ok (.aload_n 0, 1) := by decide +kernel
theorem dX6_numberTo_52 : decode cX6_numberTo 52 = .ok (.getfield 87, 3) := by decide +kernel
theorem dX6_numberTo_55 : decode cX6_numberTo 55 = .ok (.iastore, 1) := by decide +kernel
theorem dX6_numberTo_56 : decode cX6_numberTo 56 = .ok (.aload_n 0, 1) := by decide +kernel
theorem dX6_numberTo_57 : decode cX6_numberTo 57 = .ok (.iload_n 3, 1) := by decide +kernel
theorem dX6_numberTo_58 : decode cX6_numberTo 58 = .ok (.invokevirtual 111, 3) := by decide +kernel
theorem dX6_numberTo_61 : decode cX6_numberTo 61 = .ok (.return_, 1) := by decide +kernel
set_option maxHeartbeats 400000 in
set_option maxRecDepth 20000 in
theorem t_X6_numberTo (l : Launch) (ad : Nat → Nat) (D : va_G) (cs : Nat → ClassId) (h : Nat → Nat) (σ : Nat → Nat → Int32) (pre post : va_W) (t : Nat) (a : Nat) (v : Int32) (S : PS) (hT : σ 6 0 = nI t) (ht : t ≤ 200) (hi : S.2.1 ≤ t) (h0 : σ 0 = S.2.2) (h7 : σ 7 0 = nI (tkK (σ 5) t S.2.1)) (h8 : σ 8 0 = nI (tkF (σ 5) t S.2.1)) (h9 : σ 9 0 = nI (tkT (σ 5) t S.2.1)) (h10 : σ 10 0 = tkV (σ 5) t S.2.1) (h11 : σ 11 0 = bI (S.1 = true)) (ha : S.1 = false → a < 48) : CTv l yX6_numberTo cX6_numberTo 4 ({ frames := 3, cells := 0, slots := 0, locals := 63 }) ad D (tysW cs) (pre ++ (wM cs h σ ++ post)) [.ref (h 0), .int (nI a), .int v] (pre ++ (wM cs h (su (su (su (su (su (su σ 0 ((ntS (σ 5) t a v S).2.2)) 7 (fun _ => nI (tkK (σ 5) t (ntS (σ 5) t a v S).2.1))) 8 (fun _ => nI (tkF (σ 5) t (ntS (σ 5) t a v S).2.1))) 9 (fun _ => nI (tkT (σ 5) t (ntS (σ 5) t a v S).2.1))) 10 (fun _ => tkV (σ 5) t (ntS (σ 5) t a v S).2.1)) 11 (fun _ => bI ((ntS (σ 5) t a v S).1 = true))) ++ post)) := by
  refine CTv.of (lv0 := [(0, .ref (h 0)), (1, .int (nI a)), (2, .int v)]) (by decide) rfl (Nat.le_of_ble_eq_true rfl) (fun p e s m args below meth c A C hr hlk => ?_)
  have C : Cx p s m args c cX6_numberTo 4 RX6 ad D (tysW cs) A := C
  have hk_ := tkK_le (σ 5) t S.2.1
  have hf_ := tkF_le (T := σ 5) hi
  have ht_ := tkT_le (T := σ 5) hi
  refine r_blk (blk' := wM cs h (su (su (su (su (su (su σ 0 S.2.2) 7 (fun _ => nI (tkK (σ 5) t S.2.1))) 8 (fun _ => nI (tkF (σ 5) t S.2.1))) 9 (fun _ => nI (tkT (σ 5) t S.2.1))) 10 (fun _ => tkV (σ 5) t S.2.1)) 11 (fun _ => bI (S.1 = true)))) (by rw [← h0, ← h7, ← h8, ← h9, ← h10, ← h11] <;> rfl) ?_
  refine r_aload_n (pc := 0) C 0 dX6_numberTo_0 rfl rfl ?_
  refine mg_token (pc := 1) C fl_RX6_84 dX6_numberTo_1 (nI (tkK (σ 5) t S.2.1)) (congrFun (((((su_nn (by decide)).trans (su_nn (by decide))).trans (su_nn (by decide))).trans (su_nn (by decide))).trans su_at) 0) ?_
  refine r_iconst (pc := 4) C 2 dX6_numberTo_4 (by decide) ?_
  refine r_icmp_ne (pc := 5) C 33 dX6_numberTo_5 (by decide) (fun c_1 => ?_) (fun c_1 => ?_)
  · skip
    have c_1 := nIc_ne_t (a := (tkK (σ 5) t S.2.1)) (b := 2) (by omega) (by omega) c_1
    have hnb : nbB (σ 5) t S.2.1 v = false := nb_1 c_1
    refine r_iconst (pc := 33) C 0 dX6_numberTo_33 (by decide) ?_
    refine r_istore_n (pc := 34) C [(3, .int 0), (0, .ref (h 0)), (1, .int (nI a)), (2, .int v)] dX6_numberTo_34 rfl (by decide) rfl ?_
    refine r_iload_n (pc := 35) C 0 dX6_numberTo_35 rfl rfl ?_
    refine r_if_eq (pc := 36) C 56 dX6_numberTo_36 (by decide) (fun c_2 => ?_) (fun c_2 => ?_)
    · skip
      revert c_2; intro c_2
      refine r_aload_n (pc := 56) C 1 dX6_numberTo_56 rfl rfl ?_
      refine r_iload_n (pc := 57) C 0 dX6_numberTo_57 rfl rfl ?_
      refine rc_Vv (pc := 58) C (t_X6_needs' l ad D cs h (su (su (su (su (su (su σ 0 S.2.2) 7 (fun _ => nI (tkK (σ 5) t S.2.1))) 8 (fun _ => nI (tkF (σ 5) t S.2.1))) 9 (fun _ => nI (tkT (σ 5) t S.2.1))) 10 (fun _ => tkV (σ 5) t S.2.1)) 11 (fun _ => bI (S.1 = true))) pre post S.2.2 ((((((su_nn (by decide)).trans (su_nn (by decide))).trans (su_nn (by decide))).trans (su_nn (by decide))).trans (su_nn (by decide))).trans su_at) (σ 5) (((((((su_nn (by decide)).trans (su_nn (by decide))).trans (su_nn (by decide))).trans (su_nn (by decide))).trans (su_nn (by decide))).trans (su_nn (by decide)))) (σ 6) (((((((su_nn (by decide)).trans (su_nn (by decide))).trans (su_nn (by decide))).trans (su_nn (by decide))).trans (su_nn (by decide))).trans (su_nn (by decide)))) (fun _ => nI (tkK (σ 5) t S.2.1)) (((((su_nn (by decide)).trans (su_nn (by decide))).trans (su_nn (by decide))).trans (su_nn (by decide))).trans su_at) (fun _ => nI (tkF (σ 5) t S.2.1)) ((((su_nn (by decide)).trans (su_nn (by decide))).trans (su_nn (by decide))).trans su_at) (fun _ => nI (tkT (σ 5) t S.2.1)) (((su_nn (by decide)).trans (su_nn (by decide))).trans su_at) (fun _ => tkV (σ 5) t S.2.1) ((su_nn (by decide)).trans su_at) (fun _ => bI (S.1 = true)) (su_at) t false S hT ht hi rfl rfl rfl rfl rfl rfl) mv_X6_needs ml_RX6_111 rfl ⟨Nat.le_of_ble_eq_true rfl, Nat.le_of_ble_eq_true rfl⟩ ⟨rfl, rfl⟩ (q0 := 0) rfl rfl rfl rfl rfl rfl (Nat.le_of_ble_eq_true rfl) dX6_numberTo_58 ?_
      refine r_blk (blk' := wM cs h (su (su (su (su (su (su σ 0 ((ndS (σ 5) t false S).2.2)) 7 (fun _ => nI (tkK (σ 5) t (ndS (σ 5) t false S).2.1))) 8 (fun _ => nI (tkF (σ 5) t (ndS (σ 5) t false S).2.1))) 9 (fun _ => nI (tkT (σ 5) t (ndS (σ 5) t false S).2.1))) 10 (fun _ => tkV (σ 5) t (ndS (σ 5) t false S).2.1)) 11 (fun _ => bI ((ndS (σ 5) t false S).1 = true)))) (congrArg (wM cs h) (by rw [su_cm (k := 11) (j := 0) (by decide), su_cm (k := 10) (j := 0) (by decide), su_cm (k := 9) (j := 0) (by decide), su_cm (k := 8) (j := 0) (by decide), su_cm (k := 7) (j := 0) (by decide), su_su (k := 0), su_cm (k := 11) (j := 7) (by decide), su_cm (k := 10) (j := 7) (by decide), su_cm (k := 9) (j := 7) (by decide), su_cm (k := 8) (j := 7) (by decide), su_su (k := 7), su_cm (k := 11) (j := 8) (by decide), su_cm (k := 10) (j := 8) (by decide), su_cm (k := 9) (j := 8) (by decide), su_su (k := 8), su_cm (k := 11) (j := 9) (by decide), su_cm (k := 10) (j := 9) (by decide), su_su (k := 9), su_cm (k := 11) (j := 10) (by decide), su_su (k := 10), su_su (k := 11)])) ?_
      have f_3 : (ndS (σ 5) t false S).2.1 ≤ t := ndS_le hi
      exact r_vret (pc := 61) C hr hlk dX6_numberTo_61 (by rw [show ntS (σ 5) t a v S = ndS (σ 5) t false S from nt_f hnb] <;> rfl)
    · skip
      revert c_2; intro c_2
      exact absurd c_2 (by decide)
  · skip
    have c_1 := nIc_ne_f (a := (tkK (σ 5) t S.2.1)) (b := 2) (by omega) (by omega) c_1
    have hb1 := c_1
    refine r_aload_n (pc := 8) C 0 dX6_numberTo_8 rfl rfl ?_
    refine mg_to (pc := 9) C fl_RX6_67 dX6_numberTo_9 (nI (tkT (σ 5) t S.2.1)) (congrFun (((su_nn (by decide)).trans (su_nn (by decide))).trans su_at) 0) ?_
    refine r_aload_n (pc := 12) C 0 dX6_numberTo_12 rfl rfl ?_
    refine mg_from (pc := 13) C fl_RX6_70 dX6_numberTo_13 (nI (tkF (σ 5) t S.2.1)) (congrFun ((((su_nn (by decide)).trans (su_nn (by decide))).trans (su_nn (by decide))).trans su_at) 0) ?_
    refine r_isub (pc := 16) C dX6_numberTo_16 ?_
    refine r_eqi (y := nI (tkT (σ 5) t S.2.1 - tkF (σ 5) t S.2.1)) (pk_sub (by omega)) ?_
    refine r_iconst (pc := 17) C 3 dX6_numberTo_17 (by decide) ?_
    refine r_icmp_gt (pc := 18) C 33 dX6_numberTo_18 (by decide) (fun c_4 => ?_) (fun c_4 => ?_)
    · skip
      have c_4 := nIc_gt_t (a := (tkT (σ 5) t S.2.1 - tkF (σ 5) t S.2.1)) (b := 3) (by omega) (by omega) c_4
      have hnb : nbB (σ 5) t S.2.1 v = false := nb_2 (by omega)
      refine r_iconst (pc := 33) C 0 dX6_numberTo_33 (by decide) ?_
      refine r_istore_n (pc := 34) C [(3, .int 0), (0, .ref (h 0)), (1, .int (nI a)), (2, .int v)] dX6_numberTo_34 rfl (by decide) rfl ?_
      refine r_iload_n (pc := 35) C 0 dX6_numberTo_35 rfl rfl ?_
      refine r_if_eq (pc := 36) C 56 dX6_numberTo_36 (by decide) (fun c_5 => ?_) (fun c_5 => ?_)
      · skip
        revert c_5; intro c_5
        refine r_aload_n (pc := 56) C 1 dX6_numberTo_56 rfl rfl ?_
        refine r_iload_n (pc := 57) C 0 dX6_numberTo_57 rfl rfl ?_
        refine rc_Vv (pc := 58) C (t_X6_needs' l ad D cs h (su (su (su (su (su (su σ 0 S.2.2) 7 (fun _ => nI (tkK (σ 5) t S.2.1))) 8 (fun _ => nI (tkF (σ 5) t S.2.1))) 9 (fun _ => nI (tkT (σ 5) t S.2.1))) 10 (fun _ => tkV (σ 5) t S.2.1)) 11 (fun _ => bI (S.1 = true))) pre post S.2.2 ((((((su_nn (by decide)).trans (su_nn (by decide))).trans (su_nn (by decide))).trans (su_nn (by decide))).trans (su_nn (by decide))).trans su_at) (σ 5) (((((((su_nn (by decide)).trans (su_nn (by decide))).trans (su_nn (by decide))).trans (su_nn (by decide))).trans (su_nn (by decide))).trans (su_nn (by decide)))) (σ 6) (((((((su_nn (by decide)).trans (su_nn (by decide))).trans (su_nn (by decide))).trans (su_nn (by decide))).trans (su_nn (by decide))).trans (su_nn (by decide)))) (fun _ => nI (tkK (σ 5) t S.2.1)) (((((su_nn (by decide)).trans (su_nn (by decide))).trans (su_nn (by decide))).trans (su_nn (by decide))).trans su_at) (fun _ => nI (tkF (σ 5) t S.2.1)) ((((su_nn (by decide)).trans (su_nn (by decide))).trans (su_nn (by decide))).trans su_at) (fun _ => nI (tkT (σ 5) t S.2.1)) (((su_nn (by decide)).trans (su_nn (by decide))).trans su_at) (fun _ => tkV (σ 5) t S.2.1) ((su_nn (by decide)).trans su_at) (fun _ => bI (S.1 = true)) (su_at) t false S hT ht hi rfl rfl rfl rfl rfl rfl) mv_X6_needs ml_RX6_111 rfl ⟨Nat.le_of_ble_eq_true rfl, Nat.le_of_ble_eq_true rfl⟩ ⟨rfl, rfl⟩ (q0 := 0) rfl rfl rfl rfl rfl rfl (Nat.le_of_ble_eq_true rfl) dX6_numberTo_58 ?_
        refine r_blk (blk' := wM cs h (su (su (su (su (su (su σ 0 ((ndS (σ 5) t false S).2.2)) 7 (fun _ => nI (tkK (σ 5) t (ndS (σ 5) t false S).2.1))) 8 (fun _ => nI (tkF (σ 5) t (ndS (σ 5) t false S).2.1))) 9 (fun _ => nI (tkT (σ 5) t (ndS (σ 5) t false S).2.1))) 10 (fun _ => tkV (σ 5) t (ndS (σ 5) t false S).2.1)) 11 (fun _ => bI ((ndS (σ 5) t false S).1 = true)))) (congrArg (wM cs h) (by rw [su_cm (k := 11) (j := 0) (by decide), su_cm (k := 10) (j := 0) (by decide), su_cm (k := 9) (j := 0) (by decide), su_cm (k := 8) (j := 0) (by decide), su_cm (k := 7) (j := 0) (by decide), su_su (k := 0), su_cm (k := 11) (j := 7) (by decide), su_cm (k := 10) (j := 7) (by decide), su_cm (k := 9) (j := 7) (by decide), su_cm (k := 8) (j := 7) (by decide), su_su (k := 7), su_cm (k := 11) (j := 8) (by decide), su_cm (k := 10) (j := 8) (by decide), su_cm (k := 9) (j := 8) (by decide), su_su (k := 8), su_cm (k := 11) (j := 9) (by decide), su_cm (k := 10) (j := 9) (by decide), su_su (k := 9), su_cm (k := 11) (j := 10) (by decide), su_su (k := 10), su_su (k := 11)])) ?_
        have f_6 : (ndS (σ 5) t false S).2.1 ≤ t := ndS_le hi
        exact r_vret (pc := 61) C hr hlk dX6_numberTo_61 (by rw [show ntS (σ 5) t a v S = ndS (σ 5) t false S from nt_f hnb] <;> rfl)
      · skip
        revert c_5; intro c_5
        exact absurd c_5 (by decide)
    · skip
      have c_4 := nIc_gt_f (a := (tkT (σ 5) t S.2.1 - tkF (σ 5) t S.2.1)) (b := 3) (by omega) (by omega) c_4
      have hb2 : tkT (σ 5) t S.2.1 - tkF (σ 5) t S.2.1 ≤ 3 := by omega
      refine r_aload_n (pc := 21) C 0 dX6_numberTo_21 rfl rfl ?_
      refine mg_value (pc := 22) C fl_RX6_87 dX6_numberTo_22 (tkV (σ 5) t S.2.1) (congrFun ((su_nn (by decide)).trans su_at) 0) ?_
      refine r_iload_n (pc := 25) C 2 dX6_numberTo_25 rfl rfl ?_
      refine r_icmp_gt (pc := 26) C 33 dX6_numberTo_26 (by decide) (fun c_7 => ?_) (fun c_7 => ?_)
      · skip
        have hnb : nbB (σ 5) t S.2.1 v = false := nb_3 (Int32.not_le.mpr c_7)
        refine r_iconst (pc := 33) C 0 dX6_numberTo_33 (by decide) ?_
        refine r_istore_n (pc := 34) C [(3, .int 0), (0, .ref (h 0)), (1, .int (nI a)), (2, .int v)] dX6_numberTo_34 rfl (by decide) rfl ?_
        refine r_iload_n (pc := 35) C 0 dX6_numberTo_35 rfl rfl ?_
        refine r_if_eq (pc := 36) C 56 dX6_numberTo_36 (by decide) (fun c_8 => ?_) (fun c_8 => ?_)
        · skip
          revert c_8; intro c_8
          refine r_aload_n (pc := 56) C 1 dX6_numberTo_56 rfl rfl ?_
          refine r_iload_n (pc := 57) C 0 dX6_numberTo_57 rfl rfl ?_
          refine rc_Vv (pc := 58) C (t_X6_needs' l ad D cs h (su (su (su (su (su (su σ 0 S.2.2) 7 (fun _ => nI (tkK (σ 5) t S.2.1))) 8 (fun _ => nI (tkF (σ 5) t S.2.1))) 9 (fun _ => nI (tkT (σ 5) t S.2.1))) 10 (fun _ => tkV (σ 5) t S.2.1)) 11 (fun _ => bI (S.1 = true))) pre post S.2.2 ((((((su_nn (by decide)).trans (su_nn (by decide))).trans (su_nn (by decide))).trans (su_nn (by decide))).trans (su_nn (by decide))).trans su_at) (σ 5) (((((((su_nn (by decide)).trans (su_nn (by decide))).trans (su_nn (by decide))).trans (su_nn (by decide))).trans (su_nn (by decide))).trans (su_nn (by decide)))) (σ 6) (((((((su_nn (by decide)).trans (su_nn (by decide))).trans (su_nn (by decide))).trans (su_nn (by decide))).trans (su_nn (by decide))).trans (su_nn (by decide)))) (fun _ => nI (tkK (σ 5) t S.2.1)) (((((su_nn (by decide)).trans (su_nn (by decide))).trans (su_nn (by decide))).trans (su_nn (by decide))).trans su_at) (fun _ => nI (tkF (σ 5) t S.2.1)) ((((su_nn (by decide)).trans (su_nn (by decide))).trans (su_nn (by decide))).trans su_at) (fun _ => nI (tkT (σ 5) t S.2.1)) (((su_nn (by decide)).trans (su_nn (by decide))).trans su_at) (fun _ => tkV (σ 5) t S.2.1) ((su_nn (by decide)).trans su_at) (fun _ => bI (S.1 = true)) (su_at) t false S hT ht hi rfl rfl rfl rfl rfl rfl) mv_X6_needs ml_RX6_111 rfl ⟨Nat.le_of_ble_eq_true rfl, Nat.le_of_ble_eq_true rfl⟩ ⟨rfl, rfl⟩ (q0 := 0) rfl rfl rfl rfl rfl rfl (Nat.le_of_ble_eq_true rfl) dX6_numberTo_58 ?_
          refine r_blk (blk' := wM cs h (su (su (su (su (su (su σ 0 ((ndS (σ 5) t false S).2.2)) 7 (fun _ => nI (tkK (σ 5) t (ndS (σ 5) t false S).2.1))) 8 (fun _ => nI (tkF (σ 5) t (ndS (σ 5) t false S).2.1))) 9 (fun _ => nI (tkT (σ 5) t (ndS (σ 5) t false S).2.1))) 10 (fun _ => tkV (σ 5) t (ndS (σ 5) t false S).2.1)) 11 (fun _ => bI ((ndS (σ 5) t false S).1 = true)))) (congrArg (wM cs h) (by rw [su_cm (k := 11) (j := 0) (by decide), su_cm (k := 10) (j := 0) (by decide), su_cm (k := 9) (j := 0) (by decide), su_cm (k := 8) (j := 0) (by decide), su_cm (k := 7) (j := 0) (by decide), su_su (k := 0), su_cm (k := 11) (j := 7) (by decide), su_cm (k := 10) (j := 7) (by decide), su_cm (k := 9) (j := 7) (by decide), su_cm (k := 8) (j := 7) (by decide), su_su (k := 7), su_cm (k := 11) (j := 8) (by decide), su_cm (k := 10) (j := 8) (by decide), su_cm (k := 9) (j := 8) (by decide), su_su (k := 8), su_cm (k := 11) (j := 9) (by decide), su_cm (k := 10) (j := 9) (by decide), su_su (k := 9), su_cm (k := 11) (j := 10) (by decide), su_su (k := 10), su_su (k := 11)])) ?_
          have f_9 : (ndS (σ 5) t false S).2.1 ≤ t := ndS_le hi
          exact r_vret (pc := 61) C hr hlk dX6_numberTo_61 (by rw [show ntS (σ 5) t a v S = ndS (σ 5) t false S from nt_f hnb] <;> rfl)
        · skip
          revert c_8; intro c_8
          exact absurd c_8 (by decide)
      · skip
        have hnb : nbB (σ 5) t S.2.1 v = true := nb_0 hb1 hb2 (Int32.not_lt.mp c_7)
        refine r_iconst (pc := 29) C 1 dX6_numberTo_29 (by decide) ?_
        refine r_goto (pc := 30) C 34 dX6_numberTo_30 (by decide) ?_
        refine r_istore_n (pc := 34) C [(3, .int 1), (0, .ref (h 0)), (1, .int (nI a)), (2, .int v)] dX6_numberTo_34 rfl (by decide) rfl ?_
        refine r_iload_n (pc := 35) C 0 dX6_numberTo_35 rfl rfl ?_
        refine r_if_eq (pc := 36) C 56 dX6_numberTo_36 (by decide) (fun c_10 => ?_) (fun c_10 => ?_)
        · skip
          revert c_10; intro c_10
          exact absurd c_10 (by decide)
        · skip
          revert c_10; intro c_10
          refine r_aload_n (pc := 39) C 1 dX6_numberTo_39 rfl rfl ?_
          refine mg_isWrong (pc := 40) C fl_RX6_90 dX6_numberTo_40 (bI (S.1 = true)) (congrFun (su_at) 0) ?_
          refine r_if_ne (pc := 43) C 56 dX6_numberTo_43 (by decide) (fun c_11 => ?_) (fun c_11 => ?_)
          · skip
            have c_11 := bI_n.mp c_11
            refine r_aload_n (pc := 56) C 1 dX6_numberTo_56 rfl rfl ?_
            refine r_iload_n (pc := 57) C 0 dX6_numberTo_57 rfl rfl ?_
            refine rc_Vv (pc := 58) C (t_X6_needs' l ad D cs h (su (su (su (su (su (su σ 0 S.2.2) 7 (fun _ => nI (tkK (σ 5) t S.2.1))) 8 (fun _ => nI (tkF (σ 5) t S.2.1))) 9 (fun _ => nI (tkT (σ 5) t S.2.1))) 10 (fun _ => tkV (σ 5) t S.2.1)) 11 (fun _ => bI (S.1 = true))) pre post S.2.2 ((((((su_nn (by decide)).trans (su_nn (by decide))).trans (su_nn (by decide))).trans (su_nn (by decide))).trans (su_nn (by decide))).trans su_at) (σ 5) (((((((su_nn (by decide)).trans (su_nn (by decide))).trans (su_nn (by decide))).trans (su_nn (by decide))).trans (su_nn (by decide))).trans (su_nn (by decide)))) (σ 6) (((((((su_nn (by decide)).trans (su_nn (by decide))).trans (su_nn (by decide))).trans (su_nn (by decide))).trans (su_nn (by decide))).trans (su_nn (by decide)))) (fun _ => nI (tkK (σ 5) t S.2.1)) (((((su_nn (by decide)).trans (su_nn (by decide))).trans (su_nn (by decide))).trans (su_nn (by decide))).trans su_at) (fun _ => nI (tkF (σ 5) t S.2.1)) ((((su_nn (by decide)).trans (su_nn (by decide))).trans (su_nn (by decide))).trans su_at) (fun _ => nI (tkT (σ 5) t S.2.1)) (((su_nn (by decide)).trans (su_nn (by decide))).trans su_at) (fun _ => tkV (σ 5) t S.2.1) ((su_nn (by decide)).trans su_at) (fun _ => bI (S.1 = true)) (su_at) t true S hT ht hi rfl rfl rfl rfl rfl rfl) mv_X6_needs ml_RX6_111 rfl ⟨Nat.le_of_ble_eq_true rfl, Nat.le_of_ble_eq_true rfl⟩ ⟨rfl, rfl⟩ (q0 := 0) rfl rfl rfl rfl rfl rfl (Nat.le_of_ble_eq_true rfl) dX6_numberTo_58 ?_
            refine r_blk (blk' := wM cs h (su (su (su (su (su (su σ 0 ((ndS (σ 5) t true S).2.2)) 7 (fun _ => nI (tkK (σ 5) t (ndS (σ 5) t true S).2.1))) 8 (fun _ => nI (tkF (σ 5) t (ndS (σ 5) t true S).2.1))) 9 (fun _ => nI (tkT (σ 5) t (ndS (σ 5) t true S).2.1))) 10 (fun _ => tkV (σ 5) t (ndS (σ 5) t true S).2.1)) 11 (fun _ => bI ((ndS (σ 5) t true S).1 = true)))) (congrArg (wM cs h) (by rw [su_cm (k := 11) (j := 0) (by decide), su_cm (k := 10) (j := 0) (by decide), su_cm (k := 9) (j := 0) (by decide), su_cm (k := 8) (j := 0) (by decide), su_cm (k := 7) (j := 0) (by decide), su_su (k := 0), su_cm (k := 11) (j := 7) (by decide), su_cm (k := 10) (j := 7) (by decide), su_cm (k := 9) (j := 7) (by decide), su_cm (k := 8) (j := 7) (by decide), su_su (k := 7), su_cm (k := 11) (j := 8) (by decide), su_cm (k := 10) (j := 8) (by decide), su_cm (k := 9) (j := 8) (by decide), su_su (k := 8), su_cm (k := 11) (j := 9) (by decide), su_cm (k := 10) (j := 9) (by decide), su_su (k := 9), su_cm (k := 11) (j := 10) (by decide), su_su (k := 10), su_su (k := 11)])) ?_
            have f_12 : (ndS (σ 5) t true S).2.1 ≤ t := ndS_le hi
            exact r_vret (pc := 61) C hr hlk dX6_numberTo_61 (by rw [show ntS (σ 5) t a v S = ndS (σ 5) t true S from nt_w hnb ‹_›] <;> rfl)
          · skip
            have c_11 := bI_0.mp c_11
            have ha8 := ha (Bool.not_eq_true _ ▸ c_11)
            refine r_aload_n (pc := 46) C 1 dX6_numberTo_46 rfl rfl ?_
            refine mg_s (pc := 47) C fl_RX6_7 dX6_numberTo_47 ?_
            refine r_iload_n (pc := 50) C 2 dX6_numberTo_50 rfl rfl ?_
            refine r_aload_n (pc := 51) C 1 dX6_numberTo_51 rfl rfl ?_
            refine mg_value (pc := 52) C fl_RX6_87 dX6_numberTo_52 (tkV (σ 5) t S.2.1) (congrFun ((su_nn (by decide)).trans su_at) 0) ?_
            refine as_s (pc := 55) C a (rfl) (by omega) dX6_numberTo_55 S.2.2 ((((((su_nn (by decide)).trans (su_nn (by decide))).trans (su_nn (by decide))).trans (su_nn (by decide))).trans (su_nn (by decide))).trans su_at) ?_
            refine r_blk (blk' := wM cs h (su (su (su (su (su (su σ 0 (upd S.2.2 a (tkV (σ 5) t S.2.1))) 7 (fun _ => nI (tkK (σ 5) t S.2.1))) 8 (fun _ => nI (tkF (σ 5) t S.2.1))) 9 (fun _ => nI (tkT (σ 5) t S.2.1))) 10 (fun _ => tkV (σ 5) t S.2.1)) 11 (fun _ => bI (S.1 = true)))) (congrArg (wM cs h) (by rw [su_cm (k := 11) (j := 0) (by decide), su_cm (k := 10) (j := 0) (by decide), su_cm (k := 9) (j := 0) (by decide), su_cm (k := 8) (j := 0) (by decide), su_cm (k := 7) (j := 0) (by decide), su_su])) ?_
            refine r_blk (blk' := wM cs h (su (su (su (su (su (su σ 0 ((S.1, S.2.1, upd S.2.2 a (tkV (σ 5) t S.2.1)).2.2)) 7 (fun _ => nI (tkK (σ 5) t (S.1, S.2.1, upd S.2.2 a (tkV (σ 5) t S.2.1)).2.1))) 8 (fun _ => nI (tkF (σ 5) t (S.1, S.2.1, upd S.2.2 a (tkV (σ 5) t S.2.1)).2.1))) 9 (fun _ => nI (tkT (σ 5) t (S.1, S.2.1, upd S.2.2 a (tkV (σ 5) t S.2.1)).2.1))) 10 (fun _ => tkV (σ 5) t (S.1, S.2.1, upd S.2.2 a (tkV (σ 5) t S.2.1)).2.1)) 11 (fun _ => bI ((S.1, S.2.1, upd S.2.2 a (tkV (σ 5) t S.2.1)).1 = true)))) rfl ?_
            have hi8 : (S.1, S.2.1, upd S.2.2 a (tkV (σ 5) t S.2.1)).2.1 ≤ t := (show (S.1, S.2.1, upd S.2.2 a (tkV (σ 5) t S.2.1)).2.1 ≤ t from hi)
            refine r_aload_n (pc := 56) C 1 dX6_numberTo_56 rfl rfl ?_
            refine r_iload_n (pc := 57) C 0 dX6_numberTo_57 rfl rfl ?_
            refine rc_Vv (pc := 58) C (t_X6_needs' l ad D cs h (su (su (su (su (su (su σ 0 ((S.1, S.2.1, upd S.2.2 a (tkV (σ 5) t S.2.1)).2.2)) 7 (fun _ => nI (tkK (σ 5) t (S.1, S.2.1, upd S.2.2 a (tkV (σ 5) t S.2.1)).2.1))) 8 (fun _ => nI (tkF (σ 5) t (S.1, S.2.1, upd S.2.2 a (tkV (σ 5) t S.2.1)).2.1))) 9 (fun _ => nI (tkT (σ 5) t (S.1, S.2.1, upd S.2.2 a (tkV (σ 5) t S.2.1)).2.1))) 10 (fun _ => tkV (σ 5) t (S.1, S.2.1, upd S.2.2 a (tkV (σ 5) t S.2.1)).2.1)) 11 (fun _ => bI ((S.1, S.2.1, upd S.2.2 a (tkV (σ 5) t S.2.1)).1 = true))) pre post ((S.1, S.2.1, upd S.2.2 a (tkV (σ 5) t S.2.1)).2.2) ((((((su_nn (by decide)).trans (su_nn (by decide))).trans (su_nn (by decide))).trans (su_nn (by decide))).trans (su_nn (by decide))).trans su_at) (σ 5) (((((((su_nn (by decide)).trans (su_nn (by decide))).trans (su_nn (by decide))).trans (su_nn (by decide))).trans (su_nn (by decide))).trans (su_nn (by decide)))) (σ 6) (((((((su_nn (by decide)).trans (su_nn (by decide))).trans (su_nn (by decide))).trans (su_nn (by decide))).trans (su_nn (by decide))).trans (su_nn (by decide)))) (fun _ => nI (tkK (σ 5) t (S.1, S.2.1, upd S.2.2 a (tkV (σ 5) t S.2.1)).2.1)) (((((su_nn (by decide)).trans (su_nn (by decide))).trans (su_nn (by decide))).trans (su_nn (by decide))).trans su_at) (fun _ => nI (tkF (σ 5) t (S.1, S.2.1, upd S.2.2 a (tkV (σ 5) t S.2.1)).2.1)) ((((su_nn (by decide)).trans (su_nn (by decide))).trans (su_nn (by decide))).trans su_at) (fun _ => nI (tkT (σ 5) t (S.1, S.2.1, upd S.2.2 a (tkV (σ 5) t S.2.1)).2.1)) (((su_nn (by decide)).trans (su_nn (by decide))).trans su_at) (fun _ => tkV (σ 5) t (S.1, S.2.1, upd S.2.2 a (tkV (σ 5) t S.2.1)).2.1) ((su_nn (by decide)).trans su_at) (fun _ => bI ((S.1, S.2.1, upd S.2.2 a (tkV (σ 5) t S.2.1)).1 = true)) (su_at) t true (S.1, S.2.1, upd S.2.2 a (tkV (σ 5) t S.2.1)) hT ht hi8 rfl rfl rfl rfl rfl rfl) mv_X6_needs ml_RX6_111 rfl ⟨Nat.le_of_ble_eq_true rfl, Nat.le_of_ble_eq_true rfl⟩ ⟨rfl, rfl⟩ (q0 := 0) rfl rfl rfl rfl rfl rfl (Nat.le_of_ble_eq_true rfl) dX6_numberTo_58 ?_
            refine r_blk (blk' := wM cs h (su (su (su (su (su (su σ 0 ((ndS (σ 5) t true (S.1, S.2.1, upd S.2.2 a (tkV (σ 5) t S.2.1))).2.2)) 7 (fun _ => nI (tkK (σ 5) t (ndS (σ 5) t true (S.1, S.2.1, upd S.2.2 a (tkV (σ 5) t S.2.1))).2.1))) 8 (fun _ => nI (tkF (σ 5) t (ndS (σ 5) t true (S.1, S.2.1, upd S.2.2 a (tkV (σ 5) t S.2.1))).2.1))) 9 (fun _ => nI (tkT (σ 5) t (ndS (σ 5) t true (S.1, S.2.1, upd S.2.2 a (tkV (σ 5) t S.2.1))).2.1))) 10 (fun _ => tkV (σ 5) t (ndS (σ 5) t true (S.1, S.2.1, upd S.2.2 a (tkV (σ 5) t S.2.1))).2.1)) 11 (fun _ => bI ((ndS (σ 5) t true (S.1, S.2.1, upd S.2.2 a (tkV (σ 5) t S.2.1))).1 = true)))) (congrArg (wM cs h) (by rw [su_cm (k := 11) (j := 0) (by decide), su_cm (k := 10) (j := 0) (by decide), su_cm (k := 9) (j := 0) (by decide), su_cm (k := 8) (j := 0) (by decide), su_cm (k := 7) (j := 0) (by decide), su_su (k := 0), su_cm (k := 11) (j := 7) (by decide), su_cm (k := 10) (j := 7) (by decide), su_cm (k := 9) (j := 7) (by decide), su_cm (k := 8) (j := 7) (by decide), su_su (k := 7), su_cm (k := 11) (j := 8) (by decide), su_cm (k := 10) (j := 8) (by decide), su_cm (k := 9) (j := 8) (by decide), su_su (k := 8), su_cm (k := 11) (j := 9) (by decide), su_cm (k := 10) (j := 9) (by decide), su_su (k := 9), su_cm (k := 11) (j := 10) (by decide), su_su (k := 10), su_su (k := 11)])) ?_
            have f_13 : (ndS (σ 5) t true (S.1, S.2.1, upd S.2.2 a (tkV (σ 5) t S.2.1))).2.1 ≤ t := ndS_le hi8
            exact r_vret (pc := 61) C hr hlk dX6_numberTo_61 (by rw [show ntS (σ 5) t a v S = ndS (σ 5) t true (S.1, S.2.1, upd S.2.2 a (tkV (σ 5) t S.2.1)) from nt_t hnb ‹_›] <;> rfl)
theorem t_X6_numberTo' (l : Launch) (ad : Nat → Nat) (D : va_G) (cs : Nat → ClassId) (h : Nat → Nat) (σ : Nat → Nat → Int32) (pre post : va_W) (f0_ : Nat → Int32) (e0_ : σ 0 = f0_) (f5_ : Nat → Int32) (e5_ : σ 5 = f5_) (f6_ : Nat → Int32) (e6_ : σ 6 = f6_) (f7_ : Nat → Int32) (e7_ : σ 7 = f7_) (f8_ : Nat → Int32) (e8_ : σ 8 = f8_) (f9_ : Nat → Int32) (e9_ : σ 9 = f9_) (f10_ : Nat → Int32) (e10_ : σ 10 = f10_) (f11_ : Nat → Int32) (e11_ : σ 11 = f11_) (t : Nat) (a : Nat) (v : Int32) (S : PS) (hT : f6_ 0 = nI t) (ht : t ≤ 200) (hi : S.2.1 ≤ t) (h0 : f0_ = S.2.2) (h7 : f7_ 0 = nI (tkK (f5_) t S.2.1)) (h8 : f8_ 0 = nI (tkF (f5_) t S.2.1)) (h9 : f9_ 0 = nI (tkT (f5_) t S.2.1)) (h10 : f10_ 0 = tkV (f5_) t S.2.1) (h11 : f11_ 0 = bI (S.1 = true)) (ha : S.1 = false → a < 48) : CTv l yX6_numberTo cX6_numberTo 4 ({ frames := 3, cells := 0, slots := 0, locals := 63 }) ad D (tysW cs) (pre ++ (wM cs h σ ++ post)) [.ref (h 0), .int (nI a), .int v] (pre ++ (wM cs h (su (su (su (su (su (su σ 0 ((ntS (f5_) t a v S).2.2)) 7 (fun _ => nI (tkK (f5_) t (ntS (f5_) t a v S).2.1))) 8 (fun _ => nI (tkF (f5_) t (ntS (f5_) t a v S).2.1))) 9 (fun _ => nI (tkT (f5_) t (ntS (f5_) t a v S).2.1))) 10 (fun _ => tkV (f5_) t (ntS (f5_) t a v S).2.1)) 11 (fun _ => bI ((ntS (f5_) t a v S).1 = true))) ++ post)) := by
  subst e0_; subst e5_; subst e6_; subst e7_; subst e8_; subst e9_; subst e10_; subst e11_
  exact t_X6_numberTo l ad D cs h σ pre post t a v S hT ht hi h0 h7 h8 h9 h10 h11 ha
theorem dX6_perhaps_0 : decode cX6_perhaps 0 = .ok (.aload_n 0, 1) := by decide +kernel
theorem dX6_perhaps_1 : decode cX6_perhaps 1 = .ok (.getfield 90, 3) := by decide +kernel
theorem dX6_perhaps_4 : decode cX6_perhaps 4 = .ok (.ifCond .ne 17, 3) := by decide +kernel
theorem dX6_perhaps_7 : decode cX6_perhaps 7 = .ok (.iload_n 1, 1) := by decide +kernel
theorem dX6_perhaps_8 : decode cX6_perhaps 8 = .ok (.ifCond .eq 13, 3) := by decide +kernel
theorem dX6_perhaps_11 : decode cX6_perhaps 11 = .ok (.aload_n 0, 1) := by decide +kernel
theorem dX6_perhaps_12 : decode cX6_perhaps 12 = .ok (.invokevirtual 94, 3) := by decide +kernel
theorem dX6_perhaps_15 : decode cX6_perhaps 15 = .ok (.aload_n 0, 1) := by decide +kernel
theorem dX6_perhaps_16 : decode cX6_perhaps 16 = .ok (.iload_n 2, 1) := by decide +kernel
theorem dX6_perhaps_17 : decode cX6_perhaps 17 = .ok (.iload_n 3, 1) := by decide +kernel
theorem dX6_perhaps_18 : decode cX6_perhaps 18 = .ok (.invokevirtual 115, 3) := by decide +kernel
theorem dX6_perhaps_21 : decode cX6_perhaps 21 = .ok (.return_, 1) := by decide +kernel
set_option maxHeartbeats 400000 in
set_option maxRecDepth 20000 in
theorem t_X6_perhaps (l : Launch) (ad : Nat → Nat) (D : va_G) (cs : Nat → ClassId) (h : Nat → Nat) (σ : Nat → Nat → Int32) (pre post : va_W) (t : Nat) (b : Bool) (a : Nat) (v : Int32) (S : PS) (hT : σ 6 0 = nI t) (ht : t ≤ 200) (hi : S.2.1 ≤ t) (h0 : σ 0 = S.2.2) (h7 : σ 7 0 = nI (tkK (σ 5) t S.2.1)) (h8 : σ 8 0 = nI (tkF (σ 5) t S.2.1)) (h9 : σ 9 0 = nI (tkT (σ 5) t S.2.1)) (h10 : σ 10 0 = tkV (σ 5) t S.2.1) (h11 : σ 11 0 = bI (S.1 = true)) (ha : S.1 = false → a < 48) : CTv l yX6_perhaps cX6_perhaps 4 ({ frames := 4, cells := 0, slots := 0, locals := 86 }) ad D (tysW cs) (pre ++ (wM cs h σ ++ post)) [.ref (h 0), .int (bI (b = true)), .int (nI a), .int v] (pre ++ (wM cs h (su (su (su (su (su (su σ 0 ((phS (σ 5) t b a v S).2.2)) 7 (fun _ => nI (tkK (σ 5) t (phS (σ 5) t b a v S).2.1))) 8 (fun _ => nI (tkF (σ 5) t (phS (σ 5) t b a v S).2.1))) 9 (fun _ => nI (tkT (σ 5) t (phS (σ 5) t b a v S).2.1))) 10 (fun _ => tkV (σ 5) t (phS (σ 5) t b a v S).2.1)) 11 (fun _ => bI ((phS (σ 5) t b a v S).1 = true))) ++ post)) := by
  refine CTv.of (lv0 := [(0, .ref (h 0)), (1, .int (bI (b = true))), (2, .int (nI a)), (3, .int v)]) (by decide) rfl (Nat.le_of_ble_eq_true rfl) (fun p e s m args below meth c A C hr hlk => ?_)
  have C : Cx p s m args c cX6_perhaps 4 RX6 ad D (tysW cs) A := C
  have hk_ := tkK_le (σ 5) t S.2.1
  have hf_ := tkF_le (T := σ 5) hi
  have ht_ := tkT_le (T := σ 5) hi
  refine r_blk (blk' := wM cs h (su (su (su (su (su (su σ 0 S.2.2) 7 (fun _ => nI (tkK (σ 5) t S.2.1))) 8 (fun _ => nI (tkF (σ 5) t S.2.1))) 9 (fun _ => nI (tkT (σ 5) t S.2.1))) 10 (fun _ => tkV (σ 5) t S.2.1)) 11 (fun _ => bI (S.1 = true)))) (by rw [← h0, ← h7, ← h8, ← h9, ← h10, ← h11] <;> rfl) ?_
  refine r_aload_n (pc := 0) C 0 dX6_perhaps_0 rfl rfl ?_
  refine mg_isWrong (pc := 1) C fl_RX6_90 dX6_perhaps_1 (bI (S.1 = true)) (congrFun (su_at) 0) ?_
  refine r_if_ne (pc := 4) C 21 dX6_perhaps_4 (by decide) (fun c_1 => ?_) (fun c_1 => ?_)
  · skip
    have c_1 := bI_n.mp c_1
    exact r_vret (pc := 21) C hr hlk dX6_perhaps_21 (by rw [show phS (σ 5) t b a v S = S from by unfold phS; first | exact if_pos ‹_› | exact (if_neg ‹_›).trans (if_neg ‹_›)] <;> rfl)
  · skip
    have c_1 := bI_0.mp c_1
    refine r_iload_n (pc := 7) C 1 dX6_perhaps_7 rfl rfl ?_
    refine r_if_eq (pc := 8) C 21 dX6_perhaps_8 (by decide) (fun c_2 => ?_) (fun c_2 => ?_)
    · skip
      have c_2 := bI_0.mp c_2
      exact r_vret (pc := 21) C hr hlk dX6_perhaps_21 (by rw [show phS (σ 5) t b a v S = S from by unfold phS; first | exact if_pos ‹_› | exact (if_neg ‹_›).trans (if_neg ‹_›)] <;> rfl)
    · skip
      have c_2 := bI_n.mp c_2
      refine r_aload_n (pc := 11) C 0 dX6_perhaps_11 rfl rfl ?_
      refine rc_Vv (pc := 12) C (t_X6_nextToken' l ad D cs h (su (su (su (su (su (su σ 0 S.2.2) 7 (fun _ => nI (tkK (σ 5) t S.2.1))) 8 (fun _ => nI (tkF (σ 5) t S.2.1))) 9 (fun _ => nI (tkT (σ 5) t S.2.1))) 10 (fun _ => tkV (σ 5) t S.2.1)) 11 (fun _ => bI (S.1 = true))) pre post (σ 5) (((((((su_nn (by decide)).trans (su_nn (by decide))).trans (su_nn (by decide))).trans (su_nn (by decide))).trans (su_nn (by decide))).trans (su_nn (by decide)))) (σ 6) (((((((su_nn (by decide)).trans (su_nn (by decide))).trans (su_nn (by decide))).trans (su_nn (by decide))).trans (su_nn (by decide))).trans (su_nn (by decide)))) (fun _ => nI (tkT (σ 5) t S.2.1)) (((su_nn (by decide)).trans (su_nn (by decide))).trans su_at) t (tkT (σ 5) t S.2.1) hT ht rfl (by omega)) mv_X6_nextToken ml_RX6_94 rfl ⟨Nat.le_of_ble_eq_true rfl, Nat.le_of_ble_eq_true rfl⟩ ⟨rfl, rfl⟩ (q0 := 0) rfl rfl rfl rfl rfl rfl (Nat.le_of_ble_eq_true rfl) dX6_perhaps_12 ?_
      refine r_blk (blk' := wM cs h (su (su (su (su (su (su σ 0 S.2.2) 7 (fun _ => nI (tkK (σ 5) t (tkT (σ 5) t S.2.1)))) 8 (fun _ => nI (tkF (σ 5) t (tkT (σ 5) t S.2.1)))) 9 (fun _ => nI (tkT (σ 5) t (tkT (σ 5) t S.2.1)))) 10 (fun _ => tkV (σ 5) t (tkT (σ 5) t S.2.1))) 11 (fun _ => bI (S.1 = true)))) (congrArg (wM cs h) (by rw [su_cm (k := 11) (j := 7) (by decide), su_cm (k := 10) (j := 7) (by decide), su_cm (k := 9) (j := 7) (by decide), su_cm (k := 8) (j := 7) (by decide), su_su (k := 7), su_cm (k := 11) (j := 8) (by decide), su_cm (k := 10) (j := 8) (by decide), su_cm (k := 9) (j := 8) (by decide), su_su (k := 8), su_cm (k := 11) (j := 9) (by decide), su_cm (k := 10) (j := 9) (by decide), su_su (k := 9), su_cm (k := 11) (j := 10) (by decide), su_su (k := 10)])) ?_
      refine r_blk (blk' := wM cs h (su (su (su (su (su (su σ 0 ((nxS (σ 5) t S).2.2)) 7 (fun _ => nI (tkK (σ 5) t (nxS (σ 5) t S).2.1))) 8 (fun _ => nI (tkF (σ 5) t (nxS (σ 5) t S).2.1))) 9 (fun _ => nI (tkT (σ 5) t (nxS (σ 5) t S).2.1))) 10 (fun _ => tkV (σ 5) t (nxS (σ 5) t S).2.1)) 11 (fun _ => bI ((nxS (σ 5) t S).1 = true)))) rfl ?_
      have hi9 : (nxS (σ 5) t S).2.1 ≤ t := (nxS_le hi)
      refine r_aload_n (pc := 15) C 0 dX6_perhaps_15 rfl rfl ?_
      refine r_iload_n (pc := 16) C 2 dX6_perhaps_16 rfl rfl ?_
      refine r_iload_n (pc := 17) C 3 dX6_perhaps_17 rfl rfl ?_
      refine rc_Vv (pc := 18) C (t_X6_numberTo' l ad D cs h (su (su (su (su (su (su σ 0 ((nxS (σ 5) t S).2.2)) 7 (fun _ => nI (tkK (σ 5) t (nxS (σ 5) t S).2.1))) 8 (fun _ => nI (tkF (σ 5) t (nxS (σ 5) t S).2.1))) 9 (fun _ => nI (tkT (σ 5) t (nxS (σ 5) t S).2.1))) 10 (fun _ => tkV (σ 5) t (nxS (σ 5) t S).2.1)) 11 (fun _ => bI ((nxS (σ 5) t S).1 = true))) pre post ((nxS (σ 5) t S).2.2) ((((((su_nn (by decide)).trans (su_nn (by decide))).trans (su_nn (by decide))).trans (su_nn (by decide))).trans (su_nn (by decide))).trans su_at) (σ 5) (((((((su_nn (by decide)).trans (su_nn (by decide))).trans (su_nn (by decide))).trans (su_nn (by decide))).trans (su_nn (by decide))).trans (su_nn (by decide)))) (σ 6) (((((((su_nn (by decide)).trans (su_nn (by decide))).trans (su_nn (by decide))).trans (su_nn (by decide))).trans (su_nn (by decide))).trans (su_nn (by decide)))) (fun _ => nI (tkK (σ 5) t (nxS (σ 5) t S).2.1)) (((((su_nn (by decide)).trans (su_nn (by decide))).trans (su_nn (by decide))).trans (su_nn (by decide))).trans su_at) (fun _ => nI (tkF (σ 5) t (nxS (σ 5) t S).2.1)) ((((su_nn (by decide)).trans (su_nn (by decide))).trans (su_nn (by decide))).trans su_at) (fun _ => nI (tkT (σ 5) t (nxS (σ 5) t S).2.1)) (((su_nn (by decide)).trans (su_nn (by decide))).trans su_at) (fun _ => tkV (σ 5) t (nxS (σ 5) t S).2.1) ((su_nn (by decide)).trans su_at) (fun _ => bI ((nxS (σ 5) t S).1 = true)) (su_at) t a v (nxS (σ 5) t S) hT ht hi9 rfl rfl rfl rfl rfl rfl (ha)) mv_X6_numberTo ml_RX6_115 rfl ⟨Nat.le_of_ble_eq_true rfl, Nat.le_of_ble_eq_true rfl⟩ ⟨rfl, rfl⟩ (q0 := 0) rfl rfl rfl rfl rfl rfl (Nat.le_of_ble_eq_true rfl) dX6_perhaps_18 ?_
      refine r_blk (blk' := wM cs h (su (su (su (su (su (su σ 0 ((ntS (σ 5) t a v (nxS (σ 5) t S)).2.2)) 7 (fun _ => nI (tkK (σ 5) t (ntS (σ 5) t a v (nxS (σ 5) t S)).2.1))) 8 (fun _ => nI (tkF (σ 5) t (ntS (σ 5) t a v (nxS (σ 5) t S)).2.1))) 9 (fun _ => nI (tkT (σ 5) t (ntS (σ 5) t a v (nxS (σ 5) t S)).2.1))) 10 (fun _ => tkV (σ 5) t (ntS (σ 5) t a v (nxS (σ 5) t S)).2.1)) 11 (fun _ => bI ((ntS (σ 5) t a v (nxS (σ 5) t S)).1 = true)))) (congrArg (wM cs h) (by rw [su_cm (k := 11) (j := 0) (by decide), su_cm (k := 10) (j := 0) (by decide), su_cm (k := 9) (j := 0) (by decide), su_cm (k := 8) (j := 0) (by decide), su_cm (k := 7) (j := 0) (by decide), su_su (k := 0), su_cm (k := 11) (j := 7) (by decide), su_cm (k := 10) (j := 7) (by decide), su_cm (k := 9) (j := 7) (by decide), su_cm (k := 8) (j := 7) (by decide), su_su (k := 7), su_cm (k := 11) (j := 8) (by decide), su_cm (k := 10) (j := 8) (by decide), su_cm (k := 9) (j := 8) (by decide), su_su (k := 8), su_cm (k := 11) (j := 9) (by decide), su_cm (k := 10) (j := 9) (by decide), su_su (k := 9), su_cm (k := 11) (j := 10) (by decide), su_su (k := 10), su_su (k := 11)])) ?_
      have f_3 : (ntS (σ 5) t a v (nxS (σ 5) t S)).2.1 ≤ t := ntS_le hi9
      exact r_vret (pc := 21) C hr hlk dX6_perhaps_21 (by rw [show phS (σ 5) t b a v S = (ntS (σ 5) t a v (nxS (σ 5) t S)) from (if_neg ‹_›).trans (if_pos ‹_›)] <;> rfl)
theorem t_X6_perhaps' (l : Launch) (ad : Nat → Nat) (D : va_G) (cs : Nat → ClassId) (h : Nat → Nat) (σ : Nat → Nat → Int32) (pre post : va_W) (f0_ : Nat → Int32) (e0_ : σ 0 = f0_) (f5_ : Nat → Int32) (e5_ : σ 5 = f5_) (f6_ : Nat → Int32) (e6_ : σ 6 = f6_) (f7_ : Nat → Int32) (e7_ : σ 7 = f7_) (f8_ : Nat → Int32) (e8_ : σ 8 = f8_) (f9_ : Nat → Int32) (e9_ : σ 9 = f9_) (f10_ : Nat → Int32) (e10_ : σ 10 = f10_) (f11_ : Nat → Int32) (e11_ : σ 11 = f11_) (t : Nat) (b : Bool) (a : Nat) (v : Int32) (S : PS) (hT : f6_ 0 = nI t) (ht : t ≤ 200) (hi : S.2.1 ≤ t) (h0 : f0_ = S.2.2) (h7 : f7_ 0 = nI (tkK (f5_) t S.2.1)) (h8 : f8_ 0 = nI (tkF (f5_) t S.2.1)) (h9 : f9_ 0 = nI (tkT (f5_) t S.2.1)) (h10 : f10_ 0 = tkV (f5_) t S.2.1) (h11 : f11_ 0 = bI (S.1 = true)) (ha : S.1 = false → a < 48) : CTv l yX6_perhaps cX6_perhaps 4 ({ frames := 4, cells := 0, slots := 0, locals := 86 }) ad D (tysW cs) (pre ++ (wM cs h σ ++ post)) [.ref (h 0), .int (bI (b = true)), .int (nI a), .int v] (pre ++ (wM cs h (su (su (su (su (su (su σ 0 ((phS (f5_) t b a v S).2.2)) 7 (fun _ => nI (tkK (f5_) t (phS (f5_) t b a v S).2.1))) 8 (fun _ => nI (tkF (f5_) t (phS (f5_) t b a v S).2.1))) 9 (fun _ => nI (tkT (f5_) t (phS (f5_) t b a v S).2.1))) 10 (fun _ => tkV (f5_) t (phS (f5_) t b a v S).2.1)) 11 (fun _ => bI ((phS (f5_) t b a v S).1 = true))) ++ post)) := by
  subst e0_; subst e5_; subst e6_; subst e7_; subst e8_; subst e9_; subst e10_; subst e11_
  exact t_X6_perhaps l ad D cs h σ pre post t b a v S hT ht hi h0 h7 h8 h9 h10 h11 ha
theorem dX6_personHere_0 : decode cX6_personHere 0 = .ok (.bipush 8, 2) := by decide +kernel
theorem dX6_personHere_2 : decode cX6_personHere 2 = .ok (.iconst 5, 1) := by decide +kernel
theorem dX6_personHere_3 : decode cX6_personHere 3 = .ok (.aload_n 0, 1) := by decide +kernel
theorem dX6_personHere_4 : decode cX6_personHere 4 = .ok (.getfield 7, 3) := by decide +kernel
theorem dX6_personHere_7 : decode cX6_personHere 7 = .ok (.iconst 0, 1) := by decide +kernel
theorem dX6_personHere_8 : decode cX6_personHere 8 = .ok (.iaload, 1) := by decide +kernel
theorem dX6_personHere_9 : decode cX6_personHere 9 = .ok (.imul, 1) := by decide +kernel
theorem dX6_personHere_10 : decode cX6_personHere 10 = .ok (.iadd, 1) := by decide +kernel
theorem dX6_personHere_11 : decode cX6_personHere 11 = .ok (.istore_n 2, 1) := by decide +kernel
theorem dX6_personHere_12 : decode cX6_personHere 12 = .ok (.aload_n 0, 1) := by decide +kernel
theorem dX6_personHere_13 : decode cX6_personHere 13 = .ok (.aload_n 0, 1) := by decide +kernel
theorem dX6_personHere_14 : decode cX6_personHere 14 = .ok (.getfield 7, 3) := by decide +kernel
theorem dX6_personHere_17 : decode cX6_personHere 17 = .ok (.iconst 0, 1) := by decide +kernel
theorem dX6_personHere_18 : decode cX6_personHere 18 = .ok (.iaload, 1) := by decide +kernel
theorem dX6_personHere_19 : decode cX6_personHere 19 = .ok (.bipush 8, 2) := by decide +kernel
theorem dX6_personHere_21 : decode cX6_personHere 21 = .ok (.if_icmp .ge 7, 3) := by decide +kernel
theorem dX6_personHere_24 : decode cX6_personHere 24 = .ok (.iconst 1, 1) := by decide +kernel
theorem dX6_personHere_25 : decode cX6_personHere 25 = .ok (.goto 4, 3) := by decide +kernel
theorem dX6_personHere_28 : decode cX6_personHere 28 = .ok (.iconst 0, 1) := by decide +kernel
theorem dX6_personHere_29 : decode cX6_personHere 29 = .ok (.invokevirtual 111, 3) := by decide +kernel
theorem dX6_personHere_32 : decode cX6_personHere 32 = .ok (.aload_n 0, 1) := by decide +kernel
theorem dX6_personHere_33 : decode cX6_personHere 33 = .ok (.getfield 90, 3) := by decide +kernel
theorem dX6_personHere_36 : decode cX6_personHere 36 = .ok (.ifCond .ne 30, 3) := by decide +kernel
theorem dX6_personHere_39 : decode cX6_personHere 39 = .ok (.aload_n 0, 1) := by decide +kernel
theorem dX6_personHere_40 : decode cX6_personHere 40 = .ok (.getfield 7, 3) := by decide +kernel
theorem dX6_personHere_43 : decode cX6_personHere 43 = .ok (.iload_n 2, 1) := by decide +kernel
theorem dX6_personHere_44 : decode cX6_personHere 44 = .ok (.iload_n 1, 1) := by decide +kernel
theorem dX6_personHere_45 : decode cX6_personHere 45 = .ok (.iastore, 1) := by decide +kernel
theorem dX6_personHere_46 : decode cX6_personHere 46 = .ok (.aload_n 0, 1) := by decide +kernel
theorem dX6_personHere_47 : decode cX6_personHere 47 = .ok (.getfield 7, 3) := by decide +kernel
theorem dX6_personHere_50 : decode cX6_personHere 50 = .ok (.iload_n 2, 1) := by decide +kernel
theorem dX6_personHere_51 : decode cX6_personHere 51 = .ok (.iconst 4, 1) := by decide +kernel
theorem dX6_personHere_52 : decode cX6_personHere 52 = .ok (.iadd, 1) := by decide +kernel
theorem dX6_personHere_53 : decode cX6_personHere 53 = .ok (.bipush 50, 2) := by decide +kernel
theorem dX6_personHere_55 : decode cX6_personHere 55 = .ok (.iastore, 1) := by decide +kernel
theorem dX6_personHere_56 : decode cX6_personHere 56 = .ok (.aload_n 0, 1) := by decide +kernel
theorem dX6_personHere_57 : decode cX6_personHere 57 = .ok (.getfield 7, 3) := by decide +kernel
theorem dX6_personHere_60 : decode cX6_personHere 60 = .ok (.iconst 0, 1) := by decide +kernel
theorem dX6_personHere_61 : decode cX6_personHere 61 = .ok (.dup2, 1) := by decide +kernel
theorem dX6_personHere_62 : decode cX6_personHere 62 = .ok (.iaload, 1) := by decide +kernel
theorem dX6_personHere_63 : decode cX6_personHere 63 = .ok (.iconst 1, 1) := by decide +kernel
theorem dX6_personHere_64 : decode cX6_personHere 64 = .ok (.iadd, 1) := by decide +kernel
theorem dX6_personHere_65 : decode cX6_personHere 65 = .ok (.iastore, 1) := by decide +kernel
theorem dX6_personHere_66 : decode cX6_personHere 66 = .ok (.aload_n 0, 1) := by decide +kernel
theorem dX6_personHere_67 : decode cX6_personHere 67 = .ok (.aload_n 0, 1) := by decide +kernel
theorem dX6_personHere_68 : decode cX6_personHere 68 = .ok (.bipush 116, 2) := by decide +kernel
theorem dX6_personHere_70 : decode cX6_personHere 70 = .ok (.bipush 114, 2) := by decide +kernel
theorem dX6_personHere_72 : decode cX6_personHere 72 = .ok (.bipush 117, 2) := by decide +kernel
theorem dX6_personHere_74 : decode cX6_personHere 74 = .ok (.bipush 116, 2) := by decide +kernel
theorem dX6_personHere_76 : decode cX6_personHere 76 = .ok (.bipush 104, 2) := by decide +kernel
theorem dX6_personHere_78 : decode cX6_personHere 78 = .ok (.invokevirtual 101, 3) := by decide +kernel
theorem dX6_personHere_81 : decode cX6_personHere 81 = .ok (.iload_n 2, 1) := by decide +kernel
theorem dX6_personHere_82 : decode cX6_personHere 82 = .ok (.iconst 1, 1) := by decide +kernel
theorem dX6_personHere_83 : decode cX6_personHere 83 = .ok (.iadd, 1) := by decide +kernel
theorem dX6_personHere_84 : decode cX6_personHere 84 = .ok (.bipush 99, 2) := by decide +kernel
theorem dX6_personHere_86 : decode cX6_personHere 86 = .ok (.invokevirtual 119, 3) := by decide +kernel
theorem dX6_personHere_89 : decode cX6_personHere 89 = .ok (.aload_n 0, 1) := by decide +kernel
theorem dX6_personHere_90 : decode cX6_personHere 90 = .ok (.aload_n 0, 1) := by decide +kernel
theorem dX6_personHere_91 : decode cX6_personHere 91 = .ok (.bipush 119, 2) := by decide +kernel
theorem dX6_personHere_93 : decode cX6_personHere 93 = .ok (.bipush 105, 2) := by decide +kernel
theorem dX6_personHere_95 : decode cX6_personHere 95 = .ok (.bipush 115, 2) := by decide +kernel
theorem dX6_personHere_97 : decode cX6_personHere 97 = .ok (.bipush 104, 2) := by decide +kernel
theorem dX6_personHere_99 : decode cX6_personHere 99 = .ok (.invokevirtual 104, 3) := by decide +kernel
theorem dX6_personHere_102 : decode cX6_personHere 102 = .ok (.iload_n 2, 1) := by decide +kernel
theorem dX6_personHere_103 : decode cX6_personHere 103 = .ok (.iconst 2, 1) := by decide +kernel
theorem dX6_personHere_104 : decode cX6_personHere 104 = .ok (.iadd, 1) := by decide +kernel
theorem dX6_personHere_105 : decode cX6_personHere 105 = .ok (.bipush 99, 2) := by decide +kernel
theorem dX6_personHere_107 : decode cX6_personHere 107 = .ok (.invokevirtual 119, 3) := by decide +kernel
theorem dX6_personHere_110 : decode cX6_personHere 110 = .ok (.aload_n 0, 1) := by decide +kernel
theorem dX6_personHere_111 : decode cX6_personHere 111 = .ok (.aload_n 0, 1) := by decide +kernel
theorem dX6_personHere_112 : decode cX6_personHere 112 = .ok (.iconst 3, 1) := by decide +kernel
theorem dX6_personHere_113 : decode cX6_personHere 113 = .ok (.bipush 119, 2) := by decide +kernel
theorem dX6_personHere_115 : decode cX6_personHere 115 = .ok (.bipush 101, 2) := by decide +kernel
theorem dX6_personHere_117 : decode cX6_personHere 117 = .ok (.bipush 98, 2) := by decide +kernel
theorem dX6_personHere_119 : decode cX6_personHere 119 = .ok (.bipush 98, 2) := by decide +kernel
theorem dX6_personHere_121 : decode cX6_personHere 121 = .ok (.invokevirtual 97, 3) := by decide +kernel
theorem dX6_personHere_124 : decode cX6_personHere 124 = .ok (.iload_n 2, 1) := by decide +kernel
theorem dX6_personHere_125 : decode cX6_personHere 125 = .ok (.iconst 3, 1) := by decide +kernel
theorem dX6_personHere_126 : decode cX6_personHere 126 = .ok (.iadd, 1) := by decide +kernel
theorem dX6_personHere_127 : decode cX6_personHere 127 = .ok (.bipush 99, 2) := by decide +kernel
theorem dX6_personHere_129 : decode cX6_personHere 129 = .ok (.invokevirtual 119, 3) := by decide +kernel
theorem dX6_personHere_132 : decode cX6_personHere 132 = .ok (.aload_n 0, 1) := by decide +kernel
theorem dX6_personHere_133 : decode cX6_personHere 133 = .ok (.aload_n 0, 1) := by decide +kernel
theorem dX6_personHere_134 : decode cX6_personHere 134 = .ok (.bipush 99, 2) := by decide +kernel
theorem dX6_personHere_136 : decode cX6_personHere 136 = .ok (.bipush 111, 2) := by decide +kernel
theorem dX6_personHere_138 : decode cX6_personHere 138 = .ok (.bipush 105, 2) := by decide +kernel
theorem dX6_personHere_140 : decode cX6_personHere 140 = .ok (.bipush 110, 2) := by decide +kernel
theorem dX6_personHere_142 : decode cX6_personHere 142 = .ok (.bipush 115, 2) := by decide +kernel
theorem dX6_personHere_144 : decode cX6_personHere 144 = .ok (.invokevirtual 101, 3) := by decide +kernel
theorem dX6_personHere_147 : decode cX6_personHere 147 = .ok (.iload_n 2, 1) := by decide +kernel
theorem dX6_personHere_148 : decode cX6_personHere 148 = .ok (.iconst 4, 1) := by decide +kernel
theorem dX6_personHere_149 : decode cX6_personHere 149 = .ok (.iadd, 1) := by decide +kernel
theorem dX6_personHere_150 : decode cX6_personHere 150 = .ok (.sipush 999, 3) := by decide +kernel
theorem dX6_personHere_153 : decode cX6_personHere 153 = .ok (.invokevirtual 119, 3) := by decide +kernel
theorem dX6_personHere_156 : decode cX6_personHere 156 = .ok (.return_, 1) := by decide +kernel
set_option maxHeartbeats 400000 in
set_option maxRecDepth 20000 in
theorem t_X6_personHere (l : Launch) (ad : Nat → Nat) (D : va_G) (cs : Nat → ClassId) (h : Nat → Nat) (σ : Nat → Nat → Int32) (pre post : va_W) (t : Nat) (n : Nat) (k : Int32) (S : PS) (hT : σ 6 0 = nI t) (ht : t ≤ 200) (hi : S.2.1 ≤ t) (h0 : σ 0 = S.2.2) (h7 : σ 7 0 = nI (tkK (σ 5) t S.2.1)) (h8 : σ 8 0 = nI (tkF (σ 5) t S.2.1)) (h9 : σ 9 0 = nI (tkT (σ 5) t S.2.1)) (h10 : σ 10 0 = tkV (σ 5) t S.2.1) (h11 : σ 11 0 = bI (S.1 = true)) (hN : S.2.2 0 = nI n) (hn : n ≤ 8) : CTv l yX6_personHere cX6_personHere 3 ({ frames := 5, cells := 0, slots := 0, locals := 109 }) ad D (tysW cs) (pre ++ (wM cs h σ ++ post)) [.ref (h 0), .int k] (pre ++ (wM cs h (su (su (su (su (su (su σ 0 ((pnS (σ 5) t n k S).2.2)) 7 (fun _ => nI (tkK (σ 5) t (pnS (σ 5) t n k S).2.1))) 8 (fun _ => nI (tkF (σ 5) t (pnS (σ 5) t n k S).2.1))) 9 (fun _ => nI (tkT (σ 5) t (pnS (σ 5) t n k S).2.1))) 10 (fun _ => tkV (σ 5) t (pnS (σ 5) t n k S).2.1)) 11 (fun _ => bI ((pnS (σ 5) t n k S).1 = true))) ++ post)) := by
  refine CTv.of (lv0 := [(0, .ref (h 0)), (1, .int k)]) (by decide) rfl (Nat.le_of_ble_eq_true rfl) (fun p e s m args below meth c A C hr hlk => ?_)
  have C : Cx p s m args c cX6_personHere 3 RX6 ad D (tysW cs) A := C
  have hk_ := tkK_le (σ 5) t S.2.1
  have hf_ := tkF_le (T := σ 5) hi
  have ht_ := tkT_le (T := σ 5) hi
  refine r_blk (blk' := wM cs h (su (su (su (su (su (su σ 0 S.2.2) 7 (fun _ => nI (tkK (σ 5) t S.2.1))) 8 (fun _ => nI (tkF (σ 5) t S.2.1))) 9 (fun _ => nI (tkT (σ 5) t S.2.1))) 10 (fun _ => tkV (σ 5) t S.2.1)) 11 (fun _ => bI (S.1 = true)))) (by rw [← h0, ← h7, ← h8, ← h9, ← h10, ← h11] <;> rfl) ?_
  refine r_bipush (pc := 0) C 8 dX6_personHere_0 (by decide) ?_
  refine r_iconst (pc := 2) C 5 dX6_personHere_2 (by decide) ?_
  refine r_aload_n (pc := 3) C 0 dX6_personHere_3 rfl rfl ?_
  refine mg_s (pc := 4) C fl_RX6_7 dX6_personHere_4 ?_
  refine r_iconst (pc := 7) C 0 dX6_personHere_7 (by decide) ?_
  refine al_s (pc := 8) C 0 (rfl) (by omega) dX6_personHere_8 (S.2.2 0) (congrFun ((((((su_nn (by decide)).trans (su_nn (by decide))).trans (su_nn (by decide))).trans (su_nn (by decide))).trans (su_nn (by decide))).trans su_at) _) ?_
  refine r_eqi (y := nI n) (hN) ?_
  refine r_imul (pc := 9) C dX6_personHere_9 ?_
  refine r_eqi (y := nI (5 * n)) (pk_mul 5 n) ?_
  refine r_iadd (pc := 10) C dX6_personHere_10 ?_
  refine r_eqi (y := nI (8 + 5 * n)) (nI_add 8 (5 * n)) ?_
  refine r_istore_n (pc := 11) C [(2, .int (nI (8 + 5 * n))), (0, .ref (h 0)), (1, .int k)] dX6_personHere_11 rfl (by decide) rfl ?_
  refine r_aload_n (pc := 12) C 1 dX6_personHere_12 rfl rfl ?_
  refine r_aload_n (pc := 13) C 1 dX6_personHere_13 rfl rfl ?_
  refine mg_s (pc := 14) C fl_RX6_7 dX6_personHere_14 ?_
  refine r_iconst (pc := 17) C 0 dX6_personHere_17 (by decide) ?_
  refine al_s (pc := 18) C 0 (rfl) (by omega) dX6_personHere_18 (S.2.2 0) (congrFun ((((((su_nn (by decide)).trans (su_nn (by decide))).trans (su_nn (by decide))).trans (su_nn (by decide))).trans (su_nn (by decide))).trans su_at) _) ?_
  refine r_eqi (y := nI n) (hN) ?_
  refine r_bipush (pc := 19) C 8 dX6_personHere_19 (by decide) ?_
  refine r_icmp_ge (pc := 21) C 28 dX6_personHere_21 (by decide) (fun c_1 => ?_) (fun c_1 => ?_)
  · skip
    have c_1 := nIc_ge_t (a := n) (b := 8) (by omega) (by omega) c_1
    refine r_iconst (pc := 28) C 0 dX6_personHere_28 (by decide) ?_
    have h8 : decide (n < 8) = false := decide_eq_false (by omega)
    refine r_eqi (y := bI (decide (n < 8) = true)) (by rw [h8]; rfl) ?_
    refine rc_Vv (pc := 29) C (t_X6_needs' l ad D cs h (su (su (su (su (su (su σ 0 S.2.2) 7 (fun _ => nI (tkK (σ 5) t S.2.1))) 8 (fun _ => nI (tkF (σ 5) t S.2.1))) 9 (fun _ => nI (tkT (σ 5) t S.2.1))) 10 (fun _ => tkV (σ 5) t S.2.1)) 11 (fun _ => bI (S.1 = true))) pre post S.2.2 ((((((su_nn (by decide)).trans (su_nn (by decide))).trans (su_nn (by decide))).trans (su_nn (by decide))).trans (su_nn (by decide))).trans su_at) (σ 5) (((((((su_nn (by decide)).trans (su_nn (by decide))).trans (su_nn (by decide))).trans (su_nn (by decide))).trans (su_nn (by decide))).trans (su_nn (by decide)))) (σ 6) (((((((su_nn (by decide)).trans (su_nn (by decide))).trans (su_nn (by decide))).trans (su_nn (by decide))).trans (su_nn (by decide))).trans (su_nn (by decide)))) (fun _ => nI (tkK (σ 5) t S.2.1)) (((((su_nn (by decide)).trans (su_nn (by decide))).trans (su_nn (by decide))).trans (su_nn (by decide))).trans su_at) (fun _ => nI (tkF (σ 5) t S.2.1)) ((((su_nn (by decide)).trans (su_nn (by decide))).trans (su_nn (by decide))).trans su_at) (fun _ => nI (tkT (σ 5) t S.2.1)) (((su_nn (by decide)).trans (su_nn (by decide))).trans su_at) (fun _ => tkV (σ 5) t S.2.1) ((su_nn (by decide)).trans su_at) (fun _ => bI (S.1 = true)) (su_at) t (decide (n < 8)) S hT ht hi rfl rfl rfl rfl rfl rfl) mv_X6_needs ml_RX6_111 rfl ⟨Nat.le_of_ble_eq_true rfl, Nat.le_of_ble_eq_true rfl⟩ ⟨rfl, rfl⟩ (q0 := 0) rfl rfl rfl rfl rfl rfl (Nat.le_of_ble_eq_true rfl) dX6_personHere_29 ?_
    refine r_blk (blk' := wM cs h (su (su (su (su (su (su σ 0 ((ndS (σ 5) t (decide (n < 8)) S).2.2)) 7 (fun _ => nI (tkK (σ 5) t (ndS (σ 5) t (decide (n < 8)) S).2.1))) 8 (fun _ => nI (tkF (σ 5) t (ndS (σ 5) t (decide (n < 8)) S).2.1))) 9 (fun _ => nI (tkT (σ 5) t (ndS (σ 5) t (decide (n < 8)) S).2.1))) 10 (fun _ => tkV (σ 5) t (ndS (σ 5) t (decide (n < 8)) S).2.1)) 11 (fun _ => bI ((ndS (σ 5) t (decide (n < 8)) S).1 = true)))) (congrArg (wM cs h) (by rw [su_cm (k := 11) (j := 0) (by decide), su_cm (k := 10) (j := 0) (by decide), su_cm (k := 9) (j := 0) (by decide), su_cm (k := 8) (j := 0) (by decide), su_cm (k := 7) (j := 0) (by decide), su_su (k := 0), su_cm (k := 11) (j := 7) (by decide), su_cm (k := 10) (j := 7) (by decide), su_cm (k := 9) (j := 7) (by decide), su_cm (k := 8) (j := 7) (by decide), su_su (k := 7), su_cm (k := 11) (j := 8) (by decide), su_cm (k := 10) (j := 8) (by decide), su_cm (k := 9) (j := 8) (by decide), su_su (k := 8), su_cm (k := 11) (j := 9) (by decide), su_cm (k := 10) (j := 9) (by decide), su_su (k := 9), su_cm (k := 11) (j := 10) (by decide), su_su (k := 10), su_su (k := 11)])) ?_
    have f_2 : (ndS (σ 5) t (decide (n < 8)) S).2.1 ≤ t := ndS_le hi
    have hN8 : (ndS (σ 5) t (decide (n < 8)) S).2.2 0 = nI n := by rw [ndS_m]; exact hN
    refine r_aload_n (pc := 32) C 1 dX6_personHere_32 rfl rfl ?_
    refine mg_isWrong (pc := 33) C fl_RX6_90 dX6_personHere_33 (bI ((ndS (σ 5) t (decide (n < 8)) S).1 = true)) (congrFun (su_at) 0) ?_
    refine r_if_ne (pc := 36) C 66 dX6_personHere_36 (by decide) (fun c_3 => ?_) (fun c_3 => ?_)
    · skip
      have c_3 := bI_n.mp c_3
      refine r_blk (blk' := wM cs h (su (su (su (su (su (su σ 0 ((pn0 (σ 5) t n k S).2.2)) 7 (fun _ => nI (tkK (σ 5) t (pn0 (σ 5) t n k S).2.1))) 8 (fun _ => nI (tkF (σ 5) t (pn0 (σ 5) t n k S).2.1))) 9 (fun _ => nI (tkT (σ 5) t (pn0 (σ 5) t n k S).2.1))) 10 (fun _ => tkV (σ 5) t (pn0 (σ 5) t n k S).2.1)) 11 (fun _ => bI ((pn0 (σ 5) t n k S).1 = true)))) (by rw [show (pn0 (σ 5) t n k S) = (ndS (σ 5) t (decide (n < 8)) S) from if_pos ‹_›] <;> rfl) ?_
      have hp0 : (pn0 (σ 5) t n k S).2.1 ≤ t := pn0_le hi
      refine r_aload_n (pc := 66) C 1 dX6_personHere_66 rfl rfl ?_
      refine r_aload_n (pc := 67) C 1 dX6_personHere_67 rfl rfl ?_
      refine r_bipush (pc := 68) C 116 dX6_personHere_68 (by decide) ?_
      refine r_bipush (pc := 70) C 114 dX6_personHere_70 (by decide) ?_
      refine r_bipush (pc := 72) C 117 dX6_personHere_72 (by decide) ?_
      refine r_bipush (pc := 74) C 116 dX6_personHere_74 (by decide) ?_
      refine r_bipush (pc := 76) C 104 dX6_personHere_76 (by decide) ?_
      refine rc_Vi (pc := 78) C (t_X6_isFive' l ad D cs h (su (su (su (su (su (su σ 0 ((pn0 (σ 5) t n k S).2.2)) 7 (fun _ => nI (tkK (σ 5) t (pn0 (σ 5) t n k S).2.1))) 8 (fun _ => nI (tkF (σ 5) t (pn0 (σ 5) t n k S).2.1))) 9 (fun _ => nI (tkT (σ 5) t (pn0 (σ 5) t n k S).2.1))) 10 (fun _ => tkV (σ 5) t (pn0 (σ 5) t n k S).2.1)) 11 (fun _ => bI ((pn0 (σ 5) t n k S).1 = true))) pre post (σ 5) (((((((su_nn (by decide)).trans (su_nn (by decide))).trans (su_nn (by decide))).trans (su_nn (by decide))).trans (su_nn (by decide))).trans (su_nn (by decide)))) (σ 6) (((((((su_nn (by decide)).trans (su_nn (by decide))).trans (su_nn (by decide))).trans (su_nn (by decide))).trans (su_nn (by decide))).trans (su_nn (by decide)))) (fun _ => nI (tkK (σ 5) t (pn0 (σ 5) t n k S).2.1)) (((((su_nn (by decide)).trans (su_nn (by decide))).trans (su_nn (by decide))).trans (su_nn (by decide))).trans su_at) (fun _ => nI (tkF (σ 5) t (pn0 (σ 5) t n k S).2.1)) ((((su_nn (by decide)).trans (su_nn (by decide))).trans (su_nn (by decide))).trans su_at) (fun _ => nI (tkT (σ 5) t (pn0 (σ 5) t n k S).2.1)) (((su_nn (by decide)).trans (su_nn (by decide))).trans su_at) t (pn0 (σ 5) t n k S).2.1 (116 : Int32) (114 : Int32) (117 : Int32) (116 : Int32) (104 : Int32) hT ht hp0 rfl rfl rfl) mv_X6_isFive ml_RX6_101 rfl ⟨Nat.le_of_ble_eq_true rfl, Nat.le_of_ble_eq_true rfl⟩ ⟨rfl, rfl⟩ (q0 := 0) rfl rfl rfl rfl rfl rfl (Nat.le_of_ble_eq_true rfl) dX6_personHere_78 ?_
      refine r_iload_n (pc := 81) C 0 dX6_personHere_81 rfl rfl ?_
      refine r_iconst (pc := 82) C 1 dX6_personHere_82 (by decide) ?_
      refine r_iadd (pc := 83) C dX6_personHere_83 ?_
      refine r_eqi (y := nI (8 + 5 * n + 1)) (nI_add (8 + 5 * n) 1) ?_
      refine r_bipush (pc := 84) C 99 dX6_personHere_84 (by decide) ?_
      refine rc_Vv (pc := 86) C (t_X6_perhaps' l ad D cs h (su (su (su (su (su (su σ 0 ((pn0 (σ 5) t n k S).2.2)) 7 (fun _ => nI (tkK (σ 5) t (pn0 (σ 5) t n k S).2.1))) 8 (fun _ => nI (tkF (σ 5) t (pn0 (σ 5) t n k S).2.1))) 9 (fun _ => nI (tkT (σ 5) t (pn0 (σ 5) t n k S).2.1))) 10 (fun _ => tkV (σ 5) t (pn0 (σ 5) t n k S).2.1)) 11 (fun _ => bI ((pn0 (σ 5) t n k S).1 = true))) pre post ((pn0 (σ 5) t n k S).2.2) ((((((su_nn (by decide)).trans (su_nn (by decide))).trans (su_nn (by decide))).trans (su_nn (by decide))).trans (su_nn (by decide))).trans su_at) (σ 5) (((((((su_nn (by decide)).trans (su_nn (by decide))).trans (su_nn (by decide))).trans (su_nn (by decide))).trans (su_nn (by decide))).trans (su_nn (by decide)))) (σ 6) (((((((su_nn (by decide)).trans (su_nn (by decide))).trans (su_nn (by decide))).trans (su_nn (by decide))).trans (su_nn (by decide))).trans (su_nn (by decide)))) (fun _ => nI (tkK (σ 5) t (pn0 (σ 5) t n k S).2.1)) (((((su_nn (by decide)).trans (su_nn (by decide))).trans (su_nn (by decide))).trans (su_nn (by decide))).trans su_at) (fun _ => nI (tkF (σ 5) t (pn0 (σ 5) t n k S).2.1)) ((((su_nn (by decide)).trans (su_nn (by decide))).trans (su_nn (by decide))).trans su_at) (fun _ => nI (tkT (σ 5) t (pn0 (σ 5) t n k S).2.1)) (((su_nn (by decide)).trans (su_nn (by decide))).trans su_at) (fun _ => tkV (σ 5) t (pn0 (σ 5) t n k S).2.1) ((su_nn (by decide)).trans su_at) (fun _ => bI ((pn0 (σ 5) t n k S).1 = true)) (su_at) t (fiB (σ 5) t (pn0 (σ 5) t n k S).2.1 (116 : Int32) (114 : Int32) (117 : Int32) (116 : Int32) (104 : Int32)) (8 + 5 * n + 1) (99 : Int32) (pn0 (σ 5) t n k S) hT ht hp0 rfl rfl rfl rfl rfl rfl (fun q => by have := pn0_lt q; omega)) mv_X6_perhaps ml_RX6_119 rfl ⟨Nat.le_of_ble_eq_true rfl, Nat.le_of_ble_eq_true rfl⟩ ⟨rfl, rfl⟩ (q0 := 0) rfl rfl rfl rfl rfl rfl (Nat.le_of_ble_eq_true rfl) dX6_personHere_86 ?_
      refine r_blk (blk' := wM cs h (su (su (su (su (su (su σ 0 ((phS (σ 5) t (fiB (σ 5) t (pn0 (σ 5) t n k S).2.1 (116 : Int32) (114 : Int32) (117 : Int32) (116 : Int32) (104 : Int32)) (8 + 5 * n + 1) (99 : Int32) (pn0 (σ 5) t n k S)).2.2)) 7 (fun _ => nI (tkK (σ 5) t (phS (σ 5) t (fiB (σ 5) t (pn0 (σ 5) t n k S).2.1 (116 : Int32) (114 : Int32) (117 : Int32) (116 : Int32) (104 : Int32)) (8 + 5 * n + 1) (99 : Int32) (pn0 (σ 5) t n k S)).2.1))) 8 (fun _ => nI (tkF (σ 5) t (phS (σ 5) t (fiB (σ 5) t (pn0 (σ 5) t n k S).2.1 (116 : Int32) (114 : Int32) (117 : Int32) (116 : Int32) (104 : Int32)) (8 + 5 * n + 1) (99 : Int32) (pn0 (σ 5) t n k S)).2.1))) 9 (fun _ => nI (tkT (σ 5) t (phS (σ 5) t (fiB (σ 5) t (pn0 (σ 5) t n k S).2.1 (116 : Int32) (114 : Int32) (117 : Int32) (116 : Int32) (104 : Int32)) (8 + 5 * n + 1) (99 : Int32) (pn0 (σ 5) t n k S)).2.1))) 10 (fun _ => tkV (σ 5) t (phS (σ 5) t (fiB (σ 5) t (pn0 (σ 5) t n k S).2.1 (116 : Int32) (114 : Int32) (117 : Int32) (116 : Int32) (104 : Int32)) (8 + 5 * n + 1) (99 : Int32) (pn0 (σ 5) t n k S)).2.1)) 11 (fun _ => bI ((phS (σ 5) t (fiB (σ 5) t (pn0 (σ 5) t n k S).2.1 (116 : Int32) (114 : Int32) (117 : Int32) (116 : Int32) (104 : Int32)) (8 + 5 * n + 1) (99 : Int32) (pn0 (σ 5) t n k S)).1 = true)))) (congrArg (wM cs h) (by rw [su_cm (k := 11) (j := 0) (by decide), su_cm (k := 10) (j := 0) (by decide), su_cm (k := 9) (j := 0) (by decide), su_cm (k := 8) (j := 0) (by decide), su_cm (k := 7) (j := 0) (by decide), su_su (k := 0), su_cm (k := 11) (j := 7) (by decide), su_cm (k := 10) (j := 7) (by decide), su_cm (k := 9) (j := 7) (by decide), su_cm (k := 8) (j := 7) (by decide), su_su (k := 7), su_cm (k := 11) (j := 8) (by decide), su_cm (k := 10) (j := 8) (by decide), su_cm (k := 9) (j := 8) (by decide), su_su (k := 8), su_cm (k := 11) (j := 9) (by decide), su_cm (k := 10) (j := 9) (by decide), su_su (k := 9), su_cm (k := 11) (j := 10) (by decide), su_su (k := 10), su_su (k := 11)])) ?_
      have f_4 : (phS (σ 5) t (fiB (σ 5) t (pn0 (σ 5) t n k S).2.1 (116 : Int32) (114 : Int32) (117 : Int32) (116 : Int32) (104 : Int32)) (8 + 5 * n + 1) (99 : Int32) (pn0 (σ 5) t n k S)).2.1 ≤ t := phS_le hp0
      refine r_blk (blk' := wM cs h (su (su (su (su (su (su σ 0 ((pn1 (σ 5) t n k S).2.2)) 7 (fun _ => nI (tkK (σ 5) t (pn1 (σ 5) t n k S).2.1))) 8 (fun _ => nI (tkF (σ 5) t (pn1 (σ 5) t n k S).2.1))) 9 (fun _ => nI (tkT (σ 5) t (pn1 (σ 5) t n k S).2.1))) 10 (fun _ => tkV (σ 5) t (pn1 (σ 5) t n k S).2.1)) 11 (fun _ => bI ((pn1 (σ 5) t n k S).1 = true)))) rfl ?_
      have hp1 : (pn1 (σ 5) t n k S).2.1 ≤ t := pn1_le hi
      refine r_aload_n (pc := 89) C 1 dX6_personHere_89 rfl rfl ?_
      refine r_aload_n (pc := 90) C 1 dX6_personHere_90 rfl rfl ?_
      refine r_bipush (pc := 91) C 119 dX6_personHere_91 (by decide) ?_
      refine r_bipush (pc := 93) C 105 dX6_personHere_93 (by decide) ?_
      refine r_bipush (pc := 95) C 115 dX6_personHere_95 (by decide) ?_
      refine r_bipush (pc := 97) C 104 dX6_personHere_97 (by decide) ?_
      refine rc_Vi (pc := 99) C (t_X6_isFour' l ad D cs h (su (su (su (su (su (su σ 0 ((pn1 (σ 5) t n k S).2.2)) 7 (fun _ => nI (tkK (σ 5) t (pn1 (σ 5) t n k S).2.1))) 8 (fun _ => nI (tkF (σ 5) t (pn1 (σ 5) t n k S).2.1))) 9 (fun _ => nI (tkT (σ 5) t (pn1 (σ 5) t n k S).2.1))) 10 (fun _ => tkV (σ 5) t (pn1 (σ 5) t n k S).2.1)) 11 (fun _ => bI ((pn1 (σ 5) t n k S).1 = true))) pre post (σ 5) (((((((su_nn (by decide)).trans (su_nn (by decide))).trans (su_nn (by decide))).trans (su_nn (by decide))).trans (su_nn (by decide))).trans (su_nn (by decide)))) (σ 6) (((((((su_nn (by decide)).trans (su_nn (by decide))).trans (su_nn (by decide))).trans (su_nn (by decide))).trans (su_nn (by decide))).trans (su_nn (by decide)))) (fun _ => nI (tkK (σ 5) t (pn1 (σ 5) t n k S).2.1)) (((((su_nn (by decide)).trans (su_nn (by decide))).trans (su_nn (by decide))).trans (su_nn (by decide))).trans su_at) (fun _ => nI (tkF (σ 5) t (pn1 (σ 5) t n k S).2.1)) ((((su_nn (by decide)).trans (su_nn (by decide))).trans (su_nn (by decide))).trans su_at) (fun _ => nI (tkT (σ 5) t (pn1 (σ 5) t n k S).2.1)) (((su_nn (by decide)).trans (su_nn (by decide))).trans su_at) t (pn1 (σ 5) t n k S).2.1 (119 : Int32) (105 : Int32) (115 : Int32) (104 : Int32) hT ht hp1 rfl rfl rfl) mv_X6_isFour ml_RX6_104 rfl ⟨Nat.le_of_ble_eq_true rfl, Nat.le_of_ble_eq_true rfl⟩ ⟨rfl, rfl⟩ (q0 := 0) rfl rfl rfl rfl rfl rfl (Nat.le_of_ble_eq_true rfl) dX6_personHere_99 ?_
      refine r_iload_n (pc := 102) C 0 dX6_personHere_102 rfl rfl ?_
      refine r_iconst (pc := 103) C 2 dX6_personHere_103 (by decide) ?_
      refine r_iadd (pc := 104) C dX6_personHere_104 ?_
      refine r_eqi (y := nI (8 + 5 * n + 2)) (nI_add (8 + 5 * n) 2) ?_
      refine r_bipush (pc := 105) C 99 dX6_personHere_105 (by decide) ?_
      refine rc_Vv (pc := 107) C (t_X6_perhaps' l ad D cs h (su (su (su (su (su (su σ 0 ((pn1 (σ 5) t n k S).2.2)) 7 (fun _ => nI (tkK (σ 5) t (pn1 (σ 5) t n k S).2.1))) 8 (fun _ => nI (tkF (σ 5) t (pn1 (σ 5) t n k S).2.1))) 9 (fun _ => nI (tkT (σ 5) t (pn1 (σ 5) t n k S).2.1))) 10 (fun _ => tkV (σ 5) t (pn1 (σ 5) t n k S).2.1)) 11 (fun _ => bI ((pn1 (σ 5) t n k S).1 = true))) pre post ((pn1 (σ 5) t n k S).2.2) ((((((su_nn (by decide)).trans (su_nn (by decide))).trans (su_nn (by decide))).trans (su_nn (by decide))).trans (su_nn (by decide))).trans su_at) (σ 5) (((((((su_nn (by decide)).trans (su_nn (by decide))).trans (su_nn (by decide))).trans (su_nn (by decide))).trans (su_nn (by decide))).trans (su_nn (by decide)))) (σ 6) (((((((su_nn (by decide)).trans (su_nn (by decide))).trans (su_nn (by decide))).trans (su_nn (by decide))).trans (su_nn (by decide))).trans (su_nn (by decide)))) (fun _ => nI (tkK (σ 5) t (pn1 (σ 5) t n k S).2.1)) (((((su_nn (by decide)).trans (su_nn (by decide))).trans (su_nn (by decide))).trans (su_nn (by decide))).trans su_at) (fun _ => nI (tkF (σ 5) t (pn1 (σ 5) t n k S).2.1)) ((((su_nn (by decide)).trans (su_nn (by decide))).trans (su_nn (by decide))).trans su_at) (fun _ => nI (tkT (σ 5) t (pn1 (σ 5) t n k S).2.1)) (((su_nn (by decide)).trans (su_nn (by decide))).trans su_at) (fun _ => tkV (σ 5) t (pn1 (σ 5) t n k S).2.1) ((su_nn (by decide)).trans su_at) (fun _ => bI ((pn1 (σ 5) t n k S).1 = true)) (su_at) t (nmB (σ 5) t (pn1 (σ 5) t n k S).2.1 4 (119 : Int32) (105 : Int32) (115 : Int32) (104 : Int32)) (8 + 5 * n + 2) (99 : Int32) (pn1 (σ 5) t n k S) hT ht hp1 rfl rfl rfl rfl rfl rfl (fun q => by have := pn1_lt q; omega)) mv_X6_perhaps ml_RX6_119 rfl ⟨Nat.le_of_ble_eq_true rfl, Nat.le_of_ble_eq_true rfl⟩ ⟨rfl, rfl⟩ (q0 := 0) rfl rfl rfl rfl rfl rfl (Nat.le_of_ble_eq_true rfl) dX6_personHere_107 ?_
      refine r_blk (blk' := wM cs h (su (su (su (su (su (su σ 0 ((phS (σ 5) t (nmB (σ 5) t (pn1 (σ 5) t n k S).2.1 4 (119 : Int32) (105 : Int32) (115 : Int32) (104 : Int32)) (8 + 5 * n + 2) (99 : Int32) (pn1 (σ 5) t n k S)).2.2)) 7 (fun _ => nI (tkK (σ 5) t (phS (σ 5) t (nmB (σ 5) t (pn1 (σ 5) t n k S).2.1 4 (119 : Int32) (105 : Int32) (115 : Int32) (104 : Int32)) (8 + 5 * n + 2) (99 : Int32) (pn1 (σ 5) t n k S)).2.1))) 8 (fun _ => nI (tkF (σ 5) t (phS (σ 5) t (nmB (σ 5) t (pn1 (σ 5) t n k S).2.1 4 (119 : Int32) (105 : Int32) (115 : Int32) (104 : Int32)) (8 + 5 * n + 2) (99 : Int32) (pn1 (σ 5) t n k S)).2.1))) 9 (fun _ => nI (tkT (σ 5) t (phS (σ 5) t (nmB (σ 5) t (pn1 (σ 5) t n k S).2.1 4 (119 : Int32) (105 : Int32) (115 : Int32) (104 : Int32)) (8 + 5 * n + 2) (99 : Int32) (pn1 (σ 5) t n k S)).2.1))) 10 (fun _ => tkV (σ 5) t (phS (σ 5) t (nmB (σ 5) t (pn1 (σ 5) t n k S).2.1 4 (119 : Int32) (105 : Int32) (115 : Int32) (104 : Int32)) (8 + 5 * n + 2) (99 : Int32) (pn1 (σ 5) t n k S)).2.1)) 11 (fun _ => bI ((phS (σ 5) t (nmB (σ 5) t (pn1 (σ 5) t n k S).2.1 4 (119 : Int32) (105 : Int32) (115 : Int32) (104 : Int32)) (8 + 5 * n + 2) (99 : Int32) (pn1 (σ 5) t n k S)).1 = true)))) (congrArg (wM cs h) (by rw [su_cm (k := 11) (j := 0) (by decide), su_cm (k := 10) (j := 0) (by decide), su_cm (k := 9) (j := 0) (by decide), su_cm (k := 8) (j := 0) (by decide), su_cm (k := 7) (j := 0) (by decide), su_su (k := 0), su_cm (k := 11) (j := 7) (by decide), su_cm (k := 10) (j := 7) (by decide), su_cm (k := 9) (j := 7) (by decide), su_cm (k := 8) (j := 7) (by decide), su_su (k := 7), su_cm (k := 11) (j := 8) (by decide), su_cm (k := 10) (j := 8) (by decide), su_cm (k := 9) (j := 8) (by decide), su_su (k := 8), su_cm (k := 11) (j := 9) (by decide), su_cm (k := 10) (j := 9) (by decide), su_su (k := 9), su_cm (k := 11) (j := 10) (by decide), su_su (k := 10), su_su (k := 11)])) ?_
      have f_5 : (phS (σ 5) t (nmB (σ 5) t (pn1 (σ 5) t n k S).2.1 4 (119 : Int32) (105 : Int32) (115 : Int32) (104 : Int32)) (8 + 5 * n + 2) (99 : Int32) (pn1 (σ 5) t n k S)).2.1 ≤ t := phS_le hp1
      refine r_blk (blk' := wM cs h (su (su (su (su (su (su σ 0 ((pn2 (σ 5) t n k S).2.2)) 7 (fun _ => nI (tkK (σ 5) t (pn2 (σ 5) t n k S).2.1))) 8 (fun _ => nI (tkF (σ 5) t (pn2 (σ 5) t n k S).2.1))) 9 (fun _ => nI (tkT (σ 5) t (pn2 (σ 5) t n k S).2.1))) 10 (fun _ => tkV (σ 5) t (pn2 (σ 5) t n k S).2.1)) 11 (fun _ => bI ((pn2 (σ 5) t n k S).1 = true)))) rfl ?_
      have hp2 : (pn2 (σ 5) t n k S).2.1 ≤ t := pn2_le hi
      refine r_aload_n (pc := 110) C 1 dX6_personHere_110 rfl rfl ?_
      refine r_aload_n (pc := 111) C 1 dX6_personHere_111 rfl rfl ?_
      refine r_iconst (pc := 112) C 3 dX6_personHere_112 (by decide) ?_
      refine r_bipush (pc := 113) C 119 dX6_personHere_113 (by decide) ?_
      refine r_bipush (pc := 115) C 101 dX6_personHere_115 (by decide) ?_
      refine r_bipush (pc := 117) C 98 dX6_personHere_117 (by decide) ?_
      refine r_bipush (pc := 119) C 98 dX6_personHere_119 (by decide) ?_
      refine rc_Vi (pc := 121) C (t_X6_isName' l ad D cs h (su (su (su (su (su (su σ 0 ((pn2 (σ 5) t n k S).2.2)) 7 (fun _ => nI (tkK (σ 5) t (pn2 (σ 5) t n k S).2.1))) 8 (fun _ => nI (tkF (σ 5) t (pn2 (σ 5) t n k S).2.1))) 9 (fun _ => nI (tkT (σ 5) t (pn2 (σ 5) t n k S).2.1))) 10 (fun _ => tkV (σ 5) t (pn2 (σ 5) t n k S).2.1)) 11 (fun _ => bI ((pn2 (σ 5) t n k S).1 = true))) pre post (σ 5) (((((((su_nn (by decide)).trans (su_nn (by decide))).trans (su_nn (by decide))).trans (su_nn (by decide))).trans (su_nn (by decide))).trans (su_nn (by decide)))) (σ 6) (((((((su_nn (by decide)).trans (su_nn (by decide))).trans (su_nn (by decide))).trans (su_nn (by decide))).trans (su_nn (by decide))).trans (su_nn (by decide)))) (fun _ => nI (tkK (σ 5) t (pn2 (σ 5) t n k S).2.1)) (((((su_nn (by decide)).trans (su_nn (by decide))).trans (su_nn (by decide))).trans (su_nn (by decide))).trans su_at) (fun _ => nI (tkF (σ 5) t (pn2 (σ 5) t n k S).2.1)) ((((su_nn (by decide)).trans (su_nn (by decide))).trans (su_nn (by decide))).trans su_at) (fun _ => nI (tkT (σ 5) t (pn2 (σ 5) t n k S).2.1)) (((su_nn (by decide)).trans (su_nn (by decide))).trans su_at) t (pn2 (σ 5) t n k S).2.1 3 (119 : Int32) (101 : Int32) (98 : Int32) (98 : Int32) hT ht hp2 rfl rfl rfl (by omega)) mv_X6_isName ml_RX6_97 rfl ⟨Nat.le_of_ble_eq_true rfl, Nat.le_of_ble_eq_true rfl⟩ ⟨rfl, rfl⟩ (q0 := 0) rfl rfl rfl rfl rfl rfl (Nat.le_of_ble_eq_true rfl) dX6_personHere_121 ?_
      refine r_iload_n (pc := 124) C 0 dX6_personHere_124 rfl rfl ?_
      refine r_iconst (pc := 125) C 3 dX6_personHere_125 (by decide) ?_
      refine r_iadd (pc := 126) C dX6_personHere_126 ?_
      refine r_eqi (y := nI (8 + 5 * n + 3)) (nI_add (8 + 5 * n) 3) ?_
      refine r_bipush (pc := 127) C 99 dX6_personHere_127 (by decide) ?_
      refine rc_Vv (pc := 129) C (t_X6_perhaps' l ad D cs h (su (su (su (su (su (su σ 0 ((pn2 (σ 5) t n k S).2.2)) 7 (fun _ => nI (tkK (σ 5) t (pn2 (σ 5) t n k S).2.1))) 8 (fun _ => nI (tkF (σ 5) t (pn2 (σ 5) t n k S).2.1))) 9 (fun _ => nI (tkT (σ 5) t (pn2 (σ 5) t n k S).2.1))) 10 (fun _ => tkV (σ 5) t (pn2 (σ 5) t n k S).2.1)) 11 (fun _ => bI ((pn2 (σ 5) t n k S).1 = true))) pre post ((pn2 (σ 5) t n k S).2.2) ((((((su_nn (by decide)).trans (su_nn (by decide))).trans (su_nn (by decide))).trans (su_nn (by decide))).trans (su_nn (by decide))).trans su_at) (σ 5) (((((((su_nn (by decide)).trans (su_nn (by decide))).trans (su_nn (by decide))).trans (su_nn (by decide))).trans (su_nn (by decide))).trans (su_nn (by decide)))) (σ 6) (((((((su_nn (by decide)).trans (su_nn (by decide))).trans (su_nn (by decide))).trans (su_nn (by decide))).trans (su_nn (by decide))).trans (su_nn (by decide)))) (fun _ => nI (tkK (σ 5) t (pn2 (σ 5) t n k S).2.1)) (((((su_nn (by decide)).trans (su_nn (by decide))).trans (su_nn (by decide))).trans (su_nn (by decide))).trans su_at) (fun _ => nI (tkF (σ 5) t (pn2 (σ 5) t n k S).2.1)) ((((su_nn (by decide)).trans (su_nn (by decide))).trans (su_nn (by decide))).trans su_at) (fun _ => nI (tkT (σ 5) t (pn2 (σ 5) t n k S).2.1)) (((su_nn (by decide)).trans (su_nn (by decide))).trans su_at) (fun _ => tkV (σ 5) t (pn2 (σ 5) t n k S).2.1) ((su_nn (by decide)).trans su_at) (fun _ => bI ((pn2 (σ 5) t n k S).1 = true)) (su_at) t (nmB (σ 5) t (pn2 (σ 5) t n k S).2.1 3 (119 : Int32) (101 : Int32) (98 : Int32) (98 : Int32)) (8 + 5 * n + 3) (99 : Int32) (pn2 (σ 5) t n k S) hT ht hp2 rfl rfl rfl rfl rfl rfl (fun q => by have := pn2_lt q; omega)) mv_X6_perhaps ml_RX6_119 rfl ⟨Nat.le_of_ble_eq_true rfl, Nat.le_of_ble_eq_true rfl⟩ ⟨rfl, rfl⟩ (q0 := 0) rfl rfl rfl rfl rfl rfl (Nat.le_of_ble_eq_true rfl) dX6_personHere_129 ?_
      refine r_blk (blk' := wM cs h (su (su (su (su (su (su σ 0 ((phS (σ 5) t (nmB (σ 5) t (pn2 (σ 5) t n k S).2.1 3 (119 : Int32) (101 : Int32) (98 : Int32) (98 : Int32)) (8 + 5 * n + 3) (99 : Int32) (pn2 (σ 5) t n k S)).2.2)) 7 (fun _ => nI (tkK (σ 5) t (phS (σ 5) t (nmB (σ 5) t (pn2 (σ 5) t n k S).2.1 3 (119 : Int32) (101 : Int32) (98 : Int32) (98 : Int32)) (8 + 5 * n + 3) (99 : Int32) (pn2 (σ 5) t n k S)).2.1))) 8 (fun _ => nI (tkF (σ 5) t (phS (σ 5) t (nmB (σ 5) t (pn2 (σ 5) t n k S).2.1 3 (119 : Int32) (101 : Int32) (98 : Int32) (98 : Int32)) (8 + 5 * n + 3) (99 : Int32) (pn2 (σ 5) t n k S)).2.1))) 9 (fun _ => nI (tkT (σ 5) t (phS (σ 5) t (nmB (σ 5) t (pn2 (σ 5) t n k S).2.1 3 (119 : Int32) (101 : Int32) (98 : Int32) (98 : Int32)) (8 + 5 * n + 3) (99 : Int32) (pn2 (σ 5) t n k S)).2.1))) 10 (fun _ => tkV (σ 5) t (phS (σ 5) t (nmB (σ 5) t (pn2 (σ 5) t n k S).2.1 3 (119 : Int32) (101 : Int32) (98 : Int32) (98 : Int32)) (8 + 5 * n + 3) (99 : Int32) (pn2 (σ 5) t n k S)).2.1)) 11 (fun _ => bI ((phS (σ 5) t (nmB (σ 5) t (pn2 (σ 5) t n k S).2.1 3 (119 : Int32) (101 : Int32) (98 : Int32) (98 : Int32)) (8 + 5 * n + 3) (99 : Int32) (pn2 (σ 5) t n k S)).1 = true)))) (congrArg (wM cs h) (by rw [su_cm (k := 11) (j := 0) (by decide), su_cm (k := 10) (j := 0) (by decide), su_cm (k := 9) (j := 0) (by decide), su_cm (k := 8) (j := 0) (by decide), su_cm (k := 7) (j := 0) (by decide), su_su (k := 0), su_cm (k := 11) (j := 7) (by decide), su_cm (k := 10) (j := 7) (by decide), su_cm (k := 9) (j := 7) (by decide), su_cm (k := 8) (j := 7) (by decide), su_su (k := 7), su_cm (k := 11) (j := 8) (by decide), su_cm (k := 10) (j := 8) (by decide), su_cm (k := 9) (j := 8) (by decide), su_su (k := 8), su_cm (k := 11) (j := 9) (by decide), su_cm (k := 10) (j := 9) (by decide), su_su (k := 9), su_cm (k := 11) (j := 10) (by decide), su_su (k := 10), su_su (k := 11)])) ?_
      have f_6 : (phS (σ 5) t (nmB (σ 5) t (pn2 (σ 5) t n k S).2.1 3 (119 : Int32) (101 : Int32) (98 : Int32) (98 : Int32)) (8 + 5 * n + 3) (99 : Int32) (pn2 (σ 5) t n k S)).2.1 ≤ t := phS_le hp2
      refine r_blk (blk' := wM cs h (su (su (su (su (su (su σ 0 ((pn3 (σ 5) t n k S).2.2)) 7 (fun _ => nI (tkK (σ 5) t (pn3 (σ 5) t n k S).2.1))) 8 (fun _ => nI (tkF (σ 5) t (pn3 (σ 5) t n k S).2.1))) 9 (fun _ => nI (tkT (σ 5) t (pn3 (σ 5) t n k S).2.1))) 10 (fun _ => tkV (σ 5) t (pn3 (σ 5) t n k S).2.1)) 11 (fun _ => bI ((pn3 (σ 5) t n k S).1 = true)))) rfl ?_
      have hp3 : (pn3 (σ 5) t n k S).2.1 ≤ t := pn3_le hi
      refine r_aload_n (pc := 132) C 1 dX6_personHere_132 rfl rfl ?_
      refine r_aload_n (pc := 133) C 1 dX6_personHere_133 rfl rfl ?_
      refine r_bipush (pc := 134) C 99 dX6_personHere_134 (by decide) ?_
      refine r_bipush (pc := 136) C 111 dX6_personHere_136 (by decide) ?_
      refine r_bipush (pc := 138) C 105 dX6_personHere_138 (by decide) ?_
      refine r_bipush (pc := 140) C 110 dX6_personHere_140 (by decide) ?_
      refine r_bipush (pc := 142) C 115 dX6_personHere_142 (by decide) ?_
      refine rc_Vi (pc := 144) C (t_X6_isFive' l ad D cs h (su (su (su (su (su (su σ 0 ((pn3 (σ 5) t n k S).2.2)) 7 (fun _ => nI (tkK (σ 5) t (pn3 (σ 5) t n k S).2.1))) 8 (fun _ => nI (tkF (σ 5) t (pn3 (σ 5) t n k S).2.1))) 9 (fun _ => nI (tkT (σ 5) t (pn3 (σ 5) t n k S).2.1))) 10 (fun _ => tkV (σ 5) t (pn3 (σ 5) t n k S).2.1)) 11 (fun _ => bI ((pn3 (σ 5) t n k S).1 = true))) pre post (σ 5) (((((((su_nn (by decide)).trans (su_nn (by decide))).trans (su_nn (by decide))).trans (su_nn (by decide))).trans (su_nn (by decide))).trans (su_nn (by decide)))) (σ 6) (((((((su_nn (by decide)).trans (su_nn (by decide))).trans (su_nn (by decide))).trans (su_nn (by decide))).trans (su_nn (by decide))).trans (su_nn (by decide)))) (fun _ => nI (tkK (σ 5) t (pn3 (σ 5) t n k S).2.1)) (((((su_nn (by decide)).trans (su_nn (by decide))).trans (su_nn (by decide))).trans (su_nn (by decide))).trans su_at) (fun _ => nI (tkF (σ 5) t (pn3 (σ 5) t n k S).2.1)) ((((su_nn (by decide)).trans (su_nn (by decide))).trans (su_nn (by decide))).trans su_at) (fun _ => nI (tkT (σ 5) t (pn3 (σ 5) t n k S).2.1)) (((su_nn (by decide)).trans (su_nn (by decide))).trans su_at) t (pn3 (σ 5) t n k S).2.1 (99 : Int32) (111 : Int32) (105 : Int32) (110 : Int32) (115 : Int32) hT ht hp3 rfl rfl rfl) mv_X6_isFive ml_RX6_101 rfl ⟨Nat.le_of_ble_eq_true rfl, Nat.le_of_ble_eq_true rfl⟩ ⟨rfl, rfl⟩ (q0 := 0) rfl rfl rfl rfl rfl rfl (Nat.le_of_ble_eq_true rfl) dX6_personHere_144 ?_
      refine r_iload_n (pc := 147) C 0 dX6_personHere_147 rfl rfl ?_
      refine r_iconst (pc := 148) C 4 dX6_personHere_148 (by decide) ?_
      refine r_iadd (pc := 149) C dX6_personHere_149 ?_
      refine r_eqi (y := nI (8 + 5 * n + 4)) (nI_add (8 + 5 * n) 4) ?_
      refine r_sipush (pc := 150) C 999 dX6_personHere_150 (by decide) ?_
      refine rc_Vv (pc := 153) C (t_X6_perhaps' l ad D cs h (su (su (su (su (su (su σ 0 ((pn3 (σ 5) t n k S).2.2)) 7 (fun _ => nI (tkK (σ 5) t (pn3 (σ 5) t n k S).2.1))) 8 (fun _ => nI (tkF (σ 5) t (pn3 (σ 5) t n k S).2.1))) 9 (fun _ => nI (tkT (σ 5) t (pn3 (σ 5) t n k S).2.1))) 10 (fun _ => tkV (σ 5) t (pn3 (σ 5) t n k S).2.1)) 11 (fun _ => bI ((pn3 (σ 5) t n k S).1 = true))) pre post ((pn3 (σ 5) t n k S).2.2) ((((((su_nn (by decide)).trans (su_nn (by decide))).trans (su_nn (by decide))).trans (su_nn (by decide))).trans (su_nn (by decide))).trans su_at) (σ 5) (((((((su_nn (by decide)).trans (su_nn (by decide))).trans (su_nn (by decide))).trans (su_nn (by decide))).trans (su_nn (by decide))).trans (su_nn (by decide)))) (σ 6) (((((((su_nn (by decide)).trans (su_nn (by decide))).trans (su_nn (by decide))).trans (su_nn (by decide))).trans (su_nn (by decide))).trans (su_nn (by decide)))) (fun _ => nI (tkK (σ 5) t (pn3 (σ 5) t n k S).2.1)) (((((su_nn (by decide)).trans (su_nn (by decide))).trans (su_nn (by decide))).trans (su_nn (by decide))).trans su_at) (fun _ => nI (tkF (σ 5) t (pn3 (σ 5) t n k S).2.1)) ((((su_nn (by decide)).trans (su_nn (by decide))).trans (su_nn (by decide))).trans su_at) (fun _ => nI (tkT (σ 5) t (pn3 (σ 5) t n k S).2.1)) (((su_nn (by decide)).trans (su_nn (by decide))).trans su_at) (fun _ => tkV (σ 5) t (pn3 (σ 5) t n k S).2.1) ((su_nn (by decide)).trans su_at) (fun _ => bI ((pn3 (σ 5) t n k S).1 = true)) (su_at) t (fiB (σ 5) t (pn3 (σ 5) t n k S).2.1 (99 : Int32) (111 : Int32) (105 : Int32) (110 : Int32) (115 : Int32)) (8 + 5 * n + 4) (999 : Int32) (pn3 (σ 5) t n k S) hT ht hp3 rfl rfl rfl rfl rfl rfl (fun q => by have := pn3_lt q; omega)) mv_X6_perhaps ml_RX6_119 rfl ⟨Nat.le_of_ble_eq_true rfl, Nat.le_of_ble_eq_true rfl⟩ ⟨rfl, rfl⟩ (q0 := 0) rfl rfl rfl rfl rfl rfl (Nat.le_of_ble_eq_true rfl) dX6_personHere_153 ?_
      refine r_blk (blk' := wM cs h (su (su (su (su (su (su σ 0 ((phS (σ 5) t (fiB (σ 5) t (pn3 (σ 5) t n k S).2.1 (99 : Int32) (111 : Int32) (105 : Int32) (110 : Int32) (115 : Int32)) (8 + 5 * n + 4) (999 : Int32) (pn3 (σ 5) t n k S)).2.2)) 7 (fun _ => nI (tkK (σ 5) t (phS (σ 5) t (fiB (σ 5) t (pn3 (σ 5) t n k S).2.1 (99 : Int32) (111 : Int32) (105 : Int32) (110 : Int32) (115 : Int32)) (8 + 5 * n + 4) (999 : Int32) (pn3 (σ 5) t n k S)).2.1))) 8 (fun _ => nI (tkF (σ 5) t (phS (σ 5) t (fiB (σ 5) t (pn3 (σ 5) t n k S).2.1 (99 : Int32) (111 : Int32) (105 : Int32) (110 : Int32) (115 : Int32)) (8 + 5 * n + 4) (999 : Int32) (pn3 (σ 5) t n k S)).2.1))) 9 (fun _ => nI (tkT (σ 5) t (phS (σ 5) t (fiB (σ 5) t (pn3 (σ 5) t n k S).2.1 (99 : Int32) (111 : Int32) (105 : Int32) (110 : Int32) (115 : Int32)) (8 + 5 * n + 4) (999 : Int32) (pn3 (σ 5) t n k S)).2.1))) 10 (fun _ => tkV (σ 5) t (phS (σ 5) t (fiB (σ 5) t (pn3 (σ 5) t n k S).2.1 (99 : Int32) (111 : Int32) (105 : Int32) (110 : Int32) (115 : Int32)) (8 + 5 * n + 4) (999 : Int32) (pn3 (σ 5) t n k S)).2.1)) 11 (fun _ => bI ((phS (σ 5) t (fiB (σ 5) t (pn3 (σ 5) t n k S).2.1 (99 : Int32) (111 : Int32) (105 : Int32) (110 : Int32) (115 : Int32)) (8 + 5 * n + 4) (999 : Int32) (pn3 (σ 5) t n k S)).1 = true)))) (congrArg (wM cs h) (by rw [su_cm (k := 11) (j := 0) (by decide), su_cm (k := 10) (j := 0) (by decide), su_cm (k := 9) (j := 0) (by decide), su_cm (k := 8) (j := 0) (by decide), su_cm (k := 7) (j := 0) (by decide), su_su (k := 0), su_cm (k := 11) (j := 7) (by decide), su_cm (k := 10) (j := 7) (by decide), su_cm (k := 9) (j := 7) (by decide), su_cm (k := 8) (j := 7) (by decide), su_su (k := 7), su_cm (k := 11) (j := 8) (by decide), su_cm (k := 10) (j := 8) (by decide), su_cm (k := 9) (j := 8) (by decide), su_su (k := 8), su_cm (k := 11) (j := 9) (by decide), su_cm (k := 10) (j := 9) (by decide), su_su (k := 9), su_cm (k := 11) (j := 10) (by decide), su_su (k := 10), su_su (k := 11)])) ?_
      have f_7 : (phS (σ 5) t (fiB (σ 5) t (pn3 (σ 5) t n k S).2.1 (99 : Int32) (111 : Int32) (105 : Int32) (110 : Int32) (115 : Int32)) (8 + 5 * n + 4) (999 : Int32) (pn3 (σ 5) t n k S)).2.1 ≤ t := phS_le hp3
      refine r_blk (blk' := wM cs h (su (su (su (su (su (su σ 0 ((pnS (σ 5) t n k S).2.2)) 7 (fun _ => nI (tkK (σ 5) t (pnS (σ 5) t n k S).2.1))) 8 (fun _ => nI (tkF (σ 5) t (pnS (σ 5) t n k S).2.1))) 9 (fun _ => nI (tkT (σ 5) t (pnS (σ 5) t n k S).2.1))) 10 (fun _ => tkV (σ 5) t (pnS (σ 5) t n k S).2.1)) 11 (fun _ => bI ((pnS (σ 5) t n k S).1 = true)))) rfl ?_
      exact r_vret (pc := 156) C hr hlk dX6_personHere_156 rfl
    · skip
      have c_3 := bI_0.mp c_3
      have hlt8 := of_decide_eq_true (ndS_1 (Bool.not_eq_true _ ▸ c_3)).1
      refine r_aload_n (pc := 39) C 1 dX6_personHere_39 rfl rfl ?_
      refine mg_s (pc := 40) C fl_RX6_7 dX6_personHere_40 ?_
      refine r_iload_n (pc := 43) C 0 dX6_personHere_43 rfl rfl ?_
      refine r_iload_n (pc := 44) C 2 dX6_personHere_44 rfl rfl ?_
      refine as_s (pc := 45) C (8 + 5 * n) (rfl) (by omega) dX6_personHere_45 ((ndS (σ 5) t (decide (n < 8)) S).2.2) ((((((su_nn (by decide)).trans (su_nn (by decide))).trans (su_nn (by decide))).trans (su_nn (by decide))).trans (su_nn (by decide))).trans su_at) ?_
      refine r_blk (blk' := wM cs h (su (su (su (su (su (su σ 0 (upd ((ndS (σ 5) t (decide (n < 8)) S).2.2) (8 + 5 * n) k)) 7 (fun _ => nI (tkK (σ 5) t (ndS (σ 5) t (decide (n < 8)) S).2.1))) 8 (fun _ => nI (tkF (σ 5) t (ndS (σ 5) t (decide (n < 8)) S).2.1))) 9 (fun _ => nI (tkT (σ 5) t (ndS (σ 5) t (decide (n < 8)) S).2.1))) 10 (fun _ => tkV (σ 5) t (ndS (σ 5) t (decide (n < 8)) S).2.1)) 11 (fun _ => bI ((ndS (σ 5) t (decide (n < 8)) S).1 = true)))) (congrArg (wM cs h) (by rw [su_cm (k := 11) (j := 0) (by decide), su_cm (k := 10) (j := 0) (by decide), su_cm (k := 9) (j := 0) (by decide), su_cm (k := 8) (j := 0) (by decide), su_cm (k := 7) (j := 0) (by decide), su_su])) ?_
      refine r_aload_n (pc := 46) C 1 dX6_personHere_46 rfl rfl ?_
      refine mg_s (pc := 47) C fl_RX6_7 dX6_personHere_47 ?_
      refine r_iload_n (pc := 50) C 0 dX6_personHere_50 rfl rfl ?_
      refine r_iconst (pc := 51) C 4 dX6_personHere_51 (by decide) ?_
      refine r_iadd (pc := 52) C dX6_personHere_52 ?_
      refine r_eqi (y := nI (8 + 5 * n + 4)) (nI_add (8 + 5 * n) 4) ?_
      refine r_bipush (pc := 53) C 50 dX6_personHere_53 (by decide) ?_
      refine as_s (pc := 55) C (8 + 5 * n + 4) (rfl) (by omega) dX6_personHere_55 (upd ((ndS (σ 5) t (decide (n < 8)) S).2.2) (8 + 5 * n) k) ((((((su_nn (by decide)).trans (su_nn (by decide))).trans (su_nn (by decide))).trans (su_nn (by decide))).trans (su_nn (by decide))).trans su_at) ?_
      refine r_blk (blk' := wM cs h (su (su (su (su (su (su σ 0 (upd (upd ((ndS (σ 5) t (decide (n < 8)) S).2.2) (8 + 5 * n) k) (8 + 5 * n + 4) 50)) 7 (fun _ => nI (tkK (σ 5) t (ndS (σ 5) t (decide (n < 8)) S).2.1))) 8 (fun _ => nI (tkF (σ 5) t (ndS (σ 5) t (decide (n < 8)) S).2.1))) 9 (fun _ => nI (tkT (σ 5) t (ndS (σ 5) t (decide (n < 8)) S).2.1))) 10 (fun _ => tkV (σ 5) t (ndS (σ 5) t (decide (n < 8)) S).2.1)) 11 (fun _ => bI ((ndS (σ 5) t (decide (n < 8)) S).1 = true)))) (congrArg (wM cs h) (by rw [su_cm (k := 11) (j := 0) (by decide), su_cm (k := 10) (j := 0) (by decide), su_cm (k := 9) (j := 0) (by decide), su_cm (k := 8) (j := 0) (by decide), su_cm (k := 7) (j := 0) (by decide), su_su])) ?_
      refine r_aload_n (pc := 56) C 1 dX6_personHere_56 rfl rfl ?_
      refine mg_s (pc := 57) C fl_RX6_7 dX6_personHere_57 ?_
      refine r_iconst (pc := 60) C 0 dX6_personHere_60 (by decide) ?_
      refine r_dup2 (pc := 61) C dX6_personHere_61 rfl rfl ?_
      refine al_s (pc := 62) C 0 (rfl) (by omega) dX6_personHere_62 (upd (upd ((ndS (σ 5) t (decide (n < 8)) S).2.2) (8 + 5 * n) k) (8 + 5 * n + 4) 50 0) (congrFun ((((((su_nn (by decide)).trans (su_nn (by decide))).trans (su_nn (by decide))).trans (su_nn (by decide))).trans (su_nn (by decide))).trans su_at) _) ?_
      refine r_eqi (y := nI n) ((upd_0 (by omega) (upd_0 (by omega) hN8))) ?_
      refine r_iconst (pc := 63) C 1 dX6_personHere_63 (by decide) ?_
      refine r_iadd (pc := 64) C dX6_personHere_64 ?_
      refine r_eqi (y := nI (n + 1)) (nI_add n 1) ?_
      refine as_s (pc := 65) C 0 (rfl) (by omega) dX6_personHere_65 (upd (upd ((ndS (σ 5) t (decide (n < 8)) S).2.2) (8 + 5 * n) k) (8 + 5 * n + 4) 50) ((((((su_nn (by decide)).trans (su_nn (by decide))).trans (su_nn (by decide))).trans (su_nn (by decide))).trans (su_nn (by decide))).trans su_at) ?_
      refine r_blk (blk' := wM cs h (su (su (su (su (su (su σ 0 (upd (upd (upd ((ndS (σ 5) t (decide (n < 8)) S).2.2) (8 + 5 * n) k) (8 + 5 * n + 4) 50) 0 (nI (n + 1)))) 7 (fun _ => nI (tkK (σ 5) t (ndS (σ 5) t (decide (n < 8)) S).2.1))) 8 (fun _ => nI (tkF (σ 5) t (ndS (σ 5) t (decide (n < 8)) S).2.1))) 9 (fun _ => nI (tkT (σ 5) t (ndS (σ 5) t (decide (n < 8)) S).2.1))) 10 (fun _ => tkV (σ 5) t (ndS (σ 5) t (decide (n < 8)) S).2.1)) 11 (fun _ => bI ((ndS (σ 5) t (decide (n < 8)) S).1 = true)))) (congrArg (wM cs h) (by rw [su_cm (k := 11) (j := 0) (by decide), su_cm (k := 10) (j := 0) (by decide), su_cm (k := 9) (j := 0) (by decide), su_cm (k := 8) (j := 0) (by decide), su_cm (k := 7) (j := 0) (by decide), su_su])) ?_
      refine r_blk (blk' := wM cs h (su (su (su (su (su (su σ 0 ((pn0 (σ 5) t n k S).2.2)) 7 (fun _ => nI (tkK (σ 5) t (pn0 (σ 5) t n k S).2.1))) 8 (fun _ => nI (tkF (σ 5) t (pn0 (σ 5) t n k S).2.1))) 9 (fun _ => nI (tkT (σ 5) t (pn0 (σ 5) t n k S).2.1))) 10 (fun _ => tkV (σ 5) t (pn0 (σ 5) t n k S).2.1)) 11 (fun _ => bI ((pn0 (σ 5) t n k S).1 = true)))) (by rw [show (pn0 (σ 5) t n k S) = ((ndS (σ 5) t (decide (n < 8)) S).1, (ndS (σ 5) t (decide (n < 8)) S).2.1, upd (upd (upd (ndS (σ 5) t (decide (n < 8)) S).2.2 (8 + 5 * n) k) (8 + 5 * n + 4) 50) 0 (nI (n + 1))) from if_neg ‹_›] <;> rfl) ?_
      have hp0 : (pn0 (σ 5) t n k S).2.1 ≤ t := pn0_le hi
      refine r_aload_n (pc := 66) C 1 dX6_personHere_66 rfl rfl ?_
      refine r_aload_n (pc := 67) C 1 dX6_personHere_67 rfl rfl ?_
      refine r_bipush (pc := 68) C 116 dX6_personHere_68 (by decide) ?_
      refine r_bipush (pc := 70) C 114 dX6_personHere_70 (by decide) ?_
      refine r_bipush (pc := 72) C 117 dX6_personHere_72 (by decide) ?_
      refine r_bipush (pc := 74) C 116 dX6_personHere_74 (by decide) ?_
      refine r_bipush (pc := 76) C 104 dX6_personHere_76 (by decide) ?_
      refine rc_Vi (pc := 78) C (t_X6_isFive' l ad D cs h (su (su (su (su (su (su σ 0 ((pn0 (σ 5) t n k S).2.2)) 7 (fun _ => nI (tkK (σ 5) t (pn0 (σ 5) t n k S).2.1))) 8 (fun _ => nI (tkF (σ 5) t (pn0 (σ 5) t n k S).2.1))) 9 (fun _ => nI (tkT (σ 5) t (pn0 (σ 5) t n k S).2.1))) 10 (fun _ => tkV (σ 5) t (pn0 (σ 5) t n k S).2.1)) 11 (fun _ => bI ((pn0 (σ 5) t n k S).1 = true))) pre post (σ 5) (((((((su_nn (by decide)).trans (su_nn (by decide))).trans (su_nn (by decide))).trans (su_nn (by decide))).trans (su_nn (by decide))).trans (su_nn (by decide)))) (σ 6) (((((((su_nn (by decide)).trans (su_nn (by decide))).trans (su_nn (by decide))).trans (su_nn (by decide))).trans (su_nn (by decide))).trans (su_nn (by decide)))) (fun _ => nI (tkK (σ 5) t (pn0 (σ 5) t n k S).2.1)) (((((su_nn (by decide)).trans (su_nn (by decide))).trans (su_nn (by decide))).trans (su_nn (by decide))).trans su_at) (fun _ => nI (tkF (σ 5) t (pn0 (σ 5) t n k S).2.1)) ((((su_nn (by decide)).trans (su_nn (by decide))).trans (su_nn (by decide))).trans su_at) (fun _ => nI (tkT (σ 5) t (pn0 (σ 5) t n k S).2.1)) (((su_nn (by decide)).trans (su_nn (by decide))).trans su_at) t (pn0 (σ 5) t n k S).2.1 (116 : Int32) (114 : Int32) (117 : Int32) (116 : Int32) (104 : Int32) hT ht hp0 rfl rfl rfl) mv_X6_isFive ml_RX6_101 rfl ⟨Nat.le_of_ble_eq_true rfl, Nat.le_of_ble_eq_true rfl⟩ ⟨rfl, rfl⟩ (q0 := 0) rfl rfl rfl rfl rfl rfl (Nat.le_of_ble_eq_true rfl) dX6_personHere_78 ?_
      refine r_iload_n (pc := 81) C 0 dX6_personHere_81 rfl rfl ?_
      refine r_iconst (pc := 82) C 1 dX6_personHere_82 (by decide) ?_
      refine r_iadd (pc := 83) C dX6_personHere_83 ?_
      refine r_eqi (y := nI (8 + 5 * n + 1)) (nI_add (8 + 5 * n) 1) ?_
      refine r_bipush (pc := 84) C 99 dX6_personHere_84 (by decide) ?_
      refine rc_Vv (pc := 86) C (t_X6_perhaps' l ad D cs h (su (su (su (su (su (su σ 0 ((pn0 (σ 5) t n k S).2.2)) 7 (fun _ => nI (tkK (σ 5) t (pn0 (σ 5) t n k S).2.1))) 8 (fun _ => nI (tkF (σ 5) t (pn0 (σ 5) t n k S).2.1))) 9 (fun _ => nI (tkT (σ 5) t (pn0 (σ 5) t n k S).2.1))) 10 (fun _ => tkV (σ 5) t (pn0 (σ 5) t n k S).2.1)) 11 (fun _ => bI ((pn0 (σ 5) t n k S).1 = true))) pre post ((pn0 (σ 5) t n k S).2.2) ((((((su_nn (by decide)).trans (su_nn (by decide))).trans (su_nn (by decide))).trans (su_nn (by decide))).trans (su_nn (by decide))).trans su_at) (σ 5) (((((((su_nn (by decide)).trans (su_nn (by decide))).trans (su_nn (by decide))).trans (su_nn (by decide))).trans (su_nn (by decide))).trans (su_nn (by decide)))) (σ 6) (((((((su_nn (by decide)).trans (su_nn (by decide))).trans (su_nn (by decide))).trans (su_nn (by decide))).trans (su_nn (by decide))).trans (su_nn (by decide)))) (fun _ => nI (tkK (σ 5) t (pn0 (σ 5) t n k S).2.1)) (((((su_nn (by decide)).trans (su_nn (by decide))).trans (su_nn (by decide))).trans (su_nn (by decide))).trans su_at) (fun _ => nI (tkF (σ 5) t (pn0 (σ 5) t n k S).2.1)) ((((su_nn (by decide)).trans (su_nn (by decide))).trans (su_nn (by decide))).trans su_at) (fun _ => nI (tkT (σ 5) t (pn0 (σ 5) t n k S).2.1)) (((su_nn (by decide)).trans (su_nn (by decide))).trans su_at) (fun _ => tkV (σ 5) t (pn0 (σ 5) t n k S).2.1) ((su_nn (by decide)).trans su_at) (fun _ => bI ((pn0 (σ 5) t n k S).1 = true)) (su_at) t (fiB (σ 5) t (pn0 (σ 5) t n k S).2.1 (116 : Int32) (114 : Int32) (117 : Int32) (116 : Int32) (104 : Int32)) (8 + 5 * n + 1) (99 : Int32) (pn0 (σ 5) t n k S) hT ht hp0 rfl rfl rfl rfl rfl rfl (fun q => by have := pn0_lt q; omega)) mv_X6_perhaps ml_RX6_119 rfl ⟨Nat.le_of_ble_eq_true rfl, Nat.le_of_ble_eq_true rfl⟩ ⟨rfl, rfl⟩ (q0 := 0) rfl rfl rfl rfl rfl rfl (Nat.le_of_ble_eq_true rfl) dX6_personHere_86 ?_
      refine r_blk (blk' := wM cs h (su (su (su (su (su (su σ 0 ((phS (σ 5) t (fiB (σ 5) t (pn0 (σ 5) t n k S).2.1 (116 : Int32) (114 : Int32) (117 : Int32) (116 : Int32) (104 : Int32)) (8 + 5 * n + 1) (99 : Int32) (pn0 (σ 5) t n k S)).2.2)) 7 (fun _ => nI (tkK (σ 5) t (phS (σ 5) t (fiB (σ 5) t (pn0 (σ 5) t n k S).2.1 (116 : Int32) (114 : Int32) (117 : Int32) (116 : Int32) (104 : Int32)) (8 + 5 * n + 1) (99 : Int32) (pn0 (σ 5) t n k S)).2.1))) 8 (fun _ => nI (tkF (σ 5) t (phS (σ 5) t (fiB (σ 5) t (pn0 (σ 5) t n k S).2.1 (116 : Int32) (114 : Int32) (117 : Int32) (116 : Int32) (104 : Int32)) (8 + 5 * n + 1) (99 : Int32) (pn0 (σ 5) t n k S)).2.1))) 9 (fun _ => nI (tkT (σ 5) t (phS (σ 5) t (fiB (σ 5) t (pn0 (σ 5) t n k S).2.1 (116 : Int32) (114 : Int32) (117 : Int32) (116 : Int32) (104 : Int32)) (8 + 5 * n + 1) (99 : Int32) (pn0 (σ 5) t n k S)).2.1))) 10 (fun _ => tkV (σ 5) t (phS (σ 5) t (fiB (σ 5) t (pn0 (σ 5) t n k S).2.1 (116 : Int32) (114 : Int32) (117 : Int32) (116 : Int32) (104 : Int32)) (8 + 5 * n + 1) (99 : Int32) (pn0 (σ 5) t n k S)).2.1)) 11 (fun _ => bI ((phS (σ 5) t (fiB (σ 5) t (pn0 (σ 5) t n k S).2.1 (116 : Int32) (114 : Int32) (117 : Int32) (116 : Int32) (104 : Int32)) (8 + 5 * n + 1) (99 : Int32) (pn0 (σ 5) t n k S)).1 = true)))) (congrArg (wM cs h) (by rw [su_cm (k := 11) (j := 0) (by decide), su_cm (k := 10) (j := 0) (by decide), su_cm (k := 9) (j := 0) (by decide), su_cm (k := 8) (j := 0) (by decide), su_cm (k := 7) (j := 0) (by decide), su_su (k := 0), su_cm (k := 11) (j := 7) (by decide), su_cm (k := 10) (j := 7) (by decide), su_cm (k := 9) (j := 7) (by decide), su_cm (k := 8) (j := 7) (by decide), su_su (k := 7), su_cm (k := 11) (j := 8) (by decide), su_cm (k := 10) (j := 8) (by decide), su_cm (k := 9) (j := 8) (by decide), su_su (k := 8), su_cm (k := 11) (j := 9) (by decide), su_cm (k := 10) (j := 9) (by decide), su_su (k := 9), su_cm (k := 11) (j := 10) (by decide), su_su (k := 10), su_su (k := 11)])) ?_
      have f_8 : (phS (σ 5) t (fiB (σ 5) t (pn0 (σ 5) t n k S).2.1 (116 : Int32) (114 : Int32) (117 : Int32) (116 : Int32) (104 : Int32)) (8 + 5 * n + 1) (99 : Int32) (pn0 (σ 5) t n k S)).2.1 ≤ t := phS_le hp0
      refine r_blk (blk' := wM cs h (su (su (su (su (su (su σ 0 ((pn1 (σ 5) t n k S).2.2)) 7 (fun _ => nI (tkK (σ 5) t (pn1 (σ 5) t n k S).2.1))) 8 (fun _ => nI (tkF (σ 5) t (pn1 (σ 5) t n k S).2.1))) 9 (fun _ => nI (tkT (σ 5) t (pn1 (σ 5) t n k S).2.1))) 10 (fun _ => tkV (σ 5) t (pn1 (σ 5) t n k S).2.1)) 11 (fun _ => bI ((pn1 (σ 5) t n k S).1 = true)))) rfl ?_
      have hp1 : (pn1 (σ 5) t n k S).2.1 ≤ t := pn1_le hi
      refine r_aload_n (pc := 89) C 1 dX6_personHere_89 rfl rfl ?_
      refine r_aload_n (pc := 90) C 1 dX6_personHere_90 rfl rfl ?_
      refine r_bipush (pc := 91) C 119 dX6_personHere_91 (by decide) ?_
      refine r_bipush (pc := 93) C 105 dX6_personHere_93 (by decide) ?_
      refine r_bipush (pc := 95) C 115 dX6_personHere_95 (by decide) ?_
      refine r_bipush (pc := 97) C 104 dX6_personHere_97 (by decide) ?_
      refine rc_Vi (pc := 99) C (t_X6_isFour' l ad D cs h (su (su (su (su (su (su σ 0 ((pn1 (σ 5) t n k S).2.2)) 7 (fun _ => nI (tkK (σ 5) t (pn1 (σ 5) t n k S).2.1))) 8 (fun _ => nI (tkF (σ 5) t (pn1 (σ 5) t n k S).2.1))) 9 (fun _ => nI (tkT (σ 5) t (pn1 (σ 5) t n k S).2.1))) 10 (fun _ => tkV (σ 5) t (pn1 (σ 5) t n k S).2.1)) 11 (fun _ => bI ((pn1 (σ 5) t n k S).1 = true))) pre post (σ 5) (((((((su_nn (by decide)).trans (su_nn (by decide))).trans (su_nn (by decide))).trans (su_nn (by decide))).trans (su_nn (by decide))).trans (su_nn (by decide)))) (σ 6) (((((((su_nn (by decide)).trans (su_nn (by decide))).trans (su_nn (by decide))).trans (su_nn (by decide))).trans (su_nn (by decide))).trans (su_nn (by decide)))) (fun _ => nI (tkK (σ 5) t (pn1 (σ 5) t n k S).2.1)) (((((su_nn (by decide)).trans (su_nn (by decide))).trans (su_nn (by decide))).trans (su_nn (by decide))).trans su_at) (fun _ => nI (tkF (σ 5) t (pn1 (σ 5) t n k S).2.1)) ((((su_nn (by decide)).trans (su_nn (by decide))).trans (su_nn (by decide))).trans su_at) (fun _ => nI (tkT (σ 5) t (pn1 (σ 5) t n k S).2.1)) (((su_nn (by decide)).trans (su_nn (by decide))).trans su_at) t (pn1 (σ 5) t n k S).2.1 (119 : Int32) (105 : Int32) (115 : Int32) (104 : Int32) hT ht hp1 rfl rfl rfl) mv_X6_isFour ml_RX6_104 rfl ⟨Nat.le_of_ble_eq_true rfl, Nat.le_of_ble_eq_true rfl⟩ ⟨rfl, rfl⟩ (q0 := 0) rfl rfl rfl rfl rfl rfl (Nat.le_of_ble_eq_true rfl) dX6_personHere_99 ?_
      refine r_iload_n (pc := 102) C 0 dX6_personHere_102 rfl rfl ?_
      refine r_iconst (pc := 103) C 2 dX6_personHere_103 (by decide) ?_
      refine r_iadd (pc := 104) C dX6_personHere_104 ?_
      refine r_eqi (y := nI (8 + 5 * n + 2)) (nI_add (8 + 5 * n) 2) ?_
      refine r_bipush (pc := 105) C 99 dX6_personHere_105 (by decide) ?_
      refine rc_Vv (pc := 107) C (t_X6_perhaps' l ad D cs h (su (su (su (su (su (su σ 0 ((pn1 (σ 5) t n k S).2.2)) 7 (fun _ => nI (tkK (σ 5) t (pn1 (σ 5) t n k S).2.1))) 8 (fun _ => nI (tkF (σ 5) t (pn1 (σ 5) t n k S).2.1))) 9 (fun _ => nI (tkT (σ 5) t (pn1 (σ 5) t n k S).2.1))) 10 (fun _ => tkV (σ 5) t (pn1 (σ 5) t n k S).2.1)) 11 (fun _ => bI ((pn1 (σ 5) t n k S).1 = true))) pre post ((pn1 (σ 5) t n k S).2.2) ((((((su_nn (by decide)).trans (su_nn (by decide))).trans (su_nn (by decide))).trans (su_nn (by decide))).trans (su_nn (by decide))).trans su_at) (σ 5) (((((((su_nn (by decide)).trans (su_nn (by decide))).trans (su_nn (by decide))).trans (su_nn (by decide))).trans (su_nn (by decide))).trans (su_nn (by decide)))) (σ 6) (((((((su_nn (by decide)).trans (su_nn (by decide))).trans (su_nn (by decide))).trans (su_nn (by decide))).trans (su_nn (by decide))).trans (su_nn (by decide)))) (fun _ => nI (tkK (σ 5) t (pn1 (σ 5) t n k S).2.1)) (((((su_nn (by decide)).trans (su_nn (by decide))).trans (su_nn (by decide))).trans (su_nn (by decide))).trans su_at) (fun _ => nI (tkF (σ 5) t (pn1 (σ 5) t n k S).2.1)) ((((su_nn (by decide)).trans (su_nn (by decide))).trans (su_nn (by decide))).trans su_at) (fun _ => nI (tkT (σ 5) t (pn1 (σ 5) t n k S).2.1)) (((su_nn (by decide)).trans (su_nn (by decide))).trans su_at) (fun _ => tkV (σ 5) t (pn1 (σ 5) t n k S).2.1) ((su_nn (by decide)).trans su_at) (fun _ => bI ((pn1 (σ 5) t n k S).1 = true)) (su_at) t (nmB (σ 5) t (pn1 (σ 5) t n k S).2.1 4 (119 : Int32) (105 : Int32) (115 : Int32) (104 : Int32)) (8 + 5 * n + 2) (99 : Int32) (pn1 (σ 5) t n k S) hT ht hp1 rfl rfl rfl rfl rfl rfl (fun q => by have := pn1_lt q; omega)) mv_X6_perhaps ml_RX6_119 rfl ⟨Nat.le_of_ble_eq_true rfl, Nat.le_of_ble_eq_true rfl⟩ ⟨rfl, rfl⟩ (q0 := 0) rfl rfl rfl rfl rfl rfl (Nat.le_of_ble_eq_true rfl) dX6_personHere_107 ?_
      refine r_blk (blk' := wM cs h (su (su (su (su (su (su σ 0 ((phS (σ 5) t (nmB (σ 5) t (pn1 (σ 5) t n k S).2.1 4 (119 : Int32) (105 : Int32) (115 : Int32) (104 : Int32)) (8 + 5 * n + 2) (99 : Int32) (pn1 (σ 5) t n k S)).2.2)) 7 (fun _ => nI (tkK (σ 5) t (phS (σ 5) t (nmB (σ 5) t (pn1 (σ 5) t n k S).2.1 4 (119 : Int32) (105 : Int32) (115 : Int32) (104 : Int32)) (8 + 5 * n + 2) (99 : Int32) (pn1 (σ 5) t n k S)).2.1))) 8 (fun _ => nI (tkF (σ 5) t (phS (σ 5) t (nmB (σ 5) t (pn1 (σ 5) t n k S).2.1 4 (119 : Int32) (105 : Int32) (115 : Int32) (104 : Int32)) (8 + 5 * n + 2) (99 : Int32) (pn1 (σ 5) t n k S)).2.1))) 9 (fun _ => nI (tkT (σ 5) t (phS (σ 5) t (nmB (σ 5) t (pn1 (σ 5) t n k S).2.1 4 (119 : Int32) (105 : Int32) (115 : Int32) (104 : Int32)) (8 + 5 * n + 2) (99 : Int32) (pn1 (σ 5) t n k S)).2.1))) 10 (fun _ => tkV (σ 5) t (phS (σ 5) t (nmB (σ 5) t (pn1 (σ 5) t n k S).2.1 4 (119 : Int32) (105 : Int32) (115 : Int32) (104 : Int32)) (8 + 5 * n + 2) (99 : Int32) (pn1 (σ 5) t n k S)).2.1)) 11 (fun _ => bI ((phS (σ 5) t (nmB (σ 5) t (pn1 (σ 5) t n k S).2.1 4 (119 : Int32) (105 : Int32) (115 : Int32) (104 : Int32)) (8 + 5 * n + 2) (99 : Int32) (pn1 (σ 5) t n k S)).1 = true)))) (congrArg (wM cs h) (by rw [su_cm (k := 11) (j := 0) (by decide), su_cm (k := 10) (j := 0) (by decide), su_cm (k := 9) (j := 0) (by decide), su_cm (k := 8) (j := 0) (by decide), su_cm (k := 7) (j := 0) (by decide), su_su (k := 0), su_cm (k := 11) (j := 7) (by decide), su_cm (k := 10) (j := 7) (by decide), su_cm (k := 9) (j := 7) (by decide), su_cm (k := 8) (j := 7) (by decide), su_su (k := 7), su_cm (k := 11) (j := 8) (by decide), su_cm (k := 10) (j := 8) (by decide), su_cm (k := 9) (j := 8) (by decide), su_su (k := 8), su_cm (k := 11) (j := 9) (by decide), su_cm (k := 10) (j := 9) (by decide), su_su (k := 9), su_cm (k := 11) (j := 10) (by decide), su_su (k := 10), su_su (k := 11)])) ?_
      have f_9 : (phS (σ 5) t (nmB (σ 5) t (pn1 (σ 5) t n k S).2.1 4 (119 : Int32) (105 : Int32) (115 : Int32) (104 : Int32)) (8 + 5 * n + 2) (99 : Int32) (pn1 (σ 5) t n k S)).2.1 ≤ t := phS_le hp1
      refine r_blk (blk' := wM cs h (su (su (su (su (su (su σ 0 ((pn2 (σ 5) t n k S).2.2)) 7 (fun _ => nI (tkK (σ 5) t (pn2 (σ 5) t n k S).2.1))) 8 (fun _ => nI (tkF (σ 5) t (pn2 (σ 5) t n k S).2.1))) 9 (fun _ => nI (tkT (σ 5) t (pn2 (σ 5) t n k S).2.1))) 10 (fun _ => tkV (σ 5) t (pn2 (σ 5) t n k S).2.1)) 11 (fun _ => bI ((pn2 (σ 5) t n k S).1 = true)))) rfl ?_
      have hp2 : (pn2 (σ 5) t n k S).2.1 ≤ t := pn2_le hi
      refine r_aload_n (pc := 110) C 1 dX6_personHere_110 rfl rfl ?_
      refine r_aload_n (pc := 111) C 1 dX6_personHere_111 rfl rfl ?_
      refine r_iconst (pc := 112) C 3 dX6_personHere_112 (by decide) ?_
      refine r_bipush (pc := 113) C 119 dX6_personHere_113 (by decide) ?_
      refine r_bipush (pc := 115) C 101 dX6_personHere_115 (by decide) ?_
      refine r_bipush (pc := 117) C 98 dX6_personHere_117 (by decide) ?_
      refine r_bipush (pc := 119) C 98 dX6_personHere_119 (by decide) ?_
      refine rc_Vi (pc := 121) C (t_X6_isName' l ad D cs h (su (su (su (su (su (su σ 0 ((pn2 (σ 5) t n k S).2.2)) 7 (fun _ => nI (tkK (σ 5) t (pn2 (σ 5) t n k S).2.1))) 8 (fun _ => nI (tkF (σ 5) t (pn2 (σ 5) t n k S).2.1))) 9 (fun _ => nI (tkT (σ 5) t (pn2 (σ 5) t n k S).2.1))) 10 (fun _ => tkV (σ 5) t (pn2 (σ 5) t n k S).2.1)) 11 (fun _ => bI ((pn2 (σ 5) t n k S).1 = true))) pre post (σ 5) (((((((su_nn (by decide)).trans (su_nn (by decide))).trans (su_nn (by decide))).trans (su_nn (by decide))).trans (su_nn (by decide))).trans (su_nn (by decide)))) (σ 6) (((((((su_nn (by decide)).trans (su_nn (by decide))).trans (su_nn (by decide))).trans (su_nn (by decide))).trans (su_nn (by decide))).trans (su_nn (by decide)))) (fun _ => nI (tkK (σ 5) t (pn2 (σ 5) t n k S).2.1)) (((((su_nn (by decide)).trans (su_nn (by decide))).trans (su_nn (by decide))).trans (su_nn (by decide))).trans su_at) (fun _ => nI (tkF (σ 5) t (pn2 (σ 5) t n k S).2.1)) ((((su_nn (by decide)).trans (su_nn (by decide))).trans (su_nn (by decide))).trans su_at) (fun _ => nI (tkT (σ 5) t (pn2 (σ 5) t n k S).2.1)) (((su_nn (by decide)).trans (su_nn (by decide))).trans su_at) t (pn2 (σ 5) t n k S).2.1 3 (119 : Int32) (101 : Int32) (98 : Int32) (98 : Int32) hT ht hp2 rfl rfl rfl (by omega)) mv_X6_isName ml_RX6_97 rfl ⟨Nat.le_of_ble_eq_true rfl, Nat.le_of_ble_eq_true rfl⟩ ⟨rfl, rfl⟩ (q0 := 0) rfl rfl rfl rfl rfl rfl (Nat.le_of_ble_eq_true rfl) dX6_personHere_121 ?_
      refine r_iload_n (pc := 124) C 0 dX6_personHere_124 rfl rfl ?_
      refine r_iconst (pc := 125) C 3 dX6_personHere_125 (by decide) ?_
      refine r_iadd (pc := 126) C dX6_personHere_126 ?_
      refine r_eqi (y := nI (8 + 5 * n + 3)) (nI_add (8 + 5 * n) 3) ?_
      refine r_bipush (pc := 127) C 99 dX6_personHere_127 (by decide) ?_
      refine rc_Vv (pc := 129) C (t_X6_perhaps' l ad D cs h (su (su (su (su (su (su σ 0 ((pn2 (σ 5) t n k S).2.2)) 7 (fun _ => nI (tkK (σ 5) t (pn2 (σ 5) t n k S).2.1))) 8 (fun _ => nI (tkF (σ 5) t (pn2 (σ 5) t n k S).2.1))) 9 (fun _ => nI (tkT (σ 5) t (pn2 (σ 5) t n k S).2.1))) 10 (fun _ => tkV (σ 5) t (pn2 (σ 5) t n k S).2.1)) 11 (fun _ => bI ((pn2 (σ 5) t n k S).1 = true))) pre post ((pn2 (σ 5) t n k S).2.2) ((((((su_nn (by decide)).trans (su_nn (by decide))).trans (su_nn (by decide))).trans (su_nn (by decide))).trans (su_nn (by decide))).trans su_at) (σ 5) (((((((su_nn (by decide)).trans (su_nn (by decide))).trans (su_nn (by decide))).trans (su_nn (by decide))).trans (su_nn (by decide))).trans (su_nn (by decide)))) (σ 6) (((((((su_nn (by decide)).trans (su_nn (by decide))).trans (su_nn (by decide))).trans (su_nn (by decide))).trans (su_nn (by decide))).trans (su_nn (by decide)))) (fun _ => nI (tkK (σ 5) t (pn2 (σ 5) t n k S).2.1)) (((((su_nn (by decide)).trans (su_nn (by decide))).trans (su_nn (by decide))).trans (su_nn (by decide))).trans su_at) (fun _ => nI (tkF (σ 5) t (pn2 (σ 5) t n k S).2.1)) ((((su_nn (by decide)).trans (su_nn (by decide))).trans (su_nn (by decide))).trans su_at) (fun _ => nI (tkT (σ 5) t (pn2 (σ 5) t n k S).2.1)) (((su_nn (by decide)).trans (su_nn (by decide))).trans su_at) (fun _ => tkV (σ 5) t (pn2 (σ 5) t n k S).2.1) ((su_nn (by decide)).trans su_at) (fun _ => bI ((pn2 (σ 5) t n k S).1 = true)) (su_at) t (nmB (σ 5) t (pn2 (σ 5) t n k S).2.1 3 (119 : Int32) (101 : Int32) (98 : Int32) (98 : Int32)) (8 + 5 * n + 3) (99 : Int32) (pn2 (σ 5) t n k S) hT ht hp2 rfl rfl rfl rfl rfl rfl (fun q => by have := pn2_lt q; omega)) mv_X6_perhaps ml_RX6_119 rfl ⟨Nat.le_of_ble_eq_true rfl, Nat.le_of_ble_eq_true rfl⟩ ⟨rfl, rfl⟩ (q0 := 0) rfl rfl rfl rfl rfl rfl (Nat.le_of_ble_eq_true rfl) dX6_personHere_129 ?_
      refine r_blk (blk' := wM cs h (su (su (su (su (su (su σ 0 ((phS (σ 5) t (nmB (σ 5) t (pn2 (σ 5) t n k S).2.1 3 (119 : Int32) (101 : Int32) (98 : Int32) (98 : Int32)) (8 + 5 * n + 3) (99 : Int32) (pn2 (σ 5) t n k S)).2.2)) 7 (fun _ => nI (tkK (σ 5) t (phS (σ 5) t (nmB (σ 5) t (pn2 (σ 5) t n k S).2.1 3 (119 : Int32) (101 : Int32) (98 : Int32) (98 : Int32)) (8 + 5 * n + 3) (99 : Int32) (pn2 (σ 5) t n k S)).2.1))) 8 (fun _ => nI (tkF (σ 5) t (phS (σ 5) t (nmB (σ 5) t (pn2 (σ 5) t n k S).2.1 3 (119 : Int32) (101 : Int32) (98 : Int32) (98 : Int32)) (8 + 5 * n + 3) (99 : Int32) (pn2 (σ 5) t n k S)).2.1))) 9 (fun _ => nI (tkT (σ 5) t (phS (σ 5) t (nmB (σ 5) t (pn2 (σ 5) t n k S).2.1 3 (119 : Int32) (101 : Int32) (98 : Int32) (98 : Int32)) (8 + 5 * n + 3) (99 : Int32) (pn2 (σ 5) t n k S)).2.1))) 10 (fun _ => tkV (σ 5) t (phS (σ 5) t (nmB (σ 5) t (pn2 (σ 5) t n k S).2.1 3 (119 : Int32) (101 : Int32) (98 : Int32) (98 : Int32)) (8 + 5 * n + 3) (99 : Int32) (pn2 (σ 5) t n k S)).2.1)) 11 (fun _ => bI ((phS (σ 5) t (nmB (σ 5) t (pn2 (σ 5) t n k S).2.1 3 (119 : Int32) (101 : Int32) (98 : Int32) (98 : Int32)) (8 + 5 * n + 3) (99 : Int32) (pn2 (σ 5) t n k S)).1 = true)))) (congrArg (wM cs h) (by rw [su_cm (k := 11) (j := 0) (by decide), su_cm (k := 10) (j := 0) (by decide), su_cm (k := 9) (j := 0) (by decide), su_cm (k := 8) (j := 0) (by decide), su_cm (k := 7) (j := 0) (by decide), su_su (k := 0), su_cm (k := 11) (j := 7) (by decide), su_cm (k := 10) (j := 7) (by decide), su_cm (k := 9) (j := 7) (by decide), su_cm (k := 8) (j := 7) (by decide), su_su (k := 7), su_cm (k := 11) (j := 8) (by decide), su_cm (k := 10) (j := 8) (by decide), su_cm (k := 9) (j := 8) (by decide), su_su (k := 8), su_cm (k := 11) (j := 9) (by decide), su_cm (k := 10) (j := 9) (by decide), su_su (k := 9), su_cm (k := 11) (j := 10) (by decide), su_su (k := 10), su_su (k := 11)])) ?_
      have f_10 : (phS (σ 5) t (nmB (σ 5) t (pn2 (σ 5) t n k S).2.1 3 (119 : Int32) (101 : Int32) (98 : Int32) (98 : Int32)) (8 + 5 * n + 3) (99 : Int32) (pn2 (σ 5) t n k S)).2.1 ≤ t := phS_le hp2
      refine r_blk (blk' := wM cs h (su (su (su (su (su (su σ 0 ((pn3 (σ 5) t n k S).2.2)) 7 (fun _ => nI (tkK (σ 5) t (pn3 (σ 5) t n k S).2.1))) 8 (fun _ => nI (tkF (σ 5) t (pn3 (σ 5) t n k S).2.1))) 9 (fun _ => nI (tkT (σ 5) t (pn3 (σ 5) t n k S).2.1))) 10 (fun _ => tkV (σ 5) t (pn3 (σ 5) t n k S).2.1)) 11 (fun _ => bI ((pn3 (σ 5) t n k S).1 = true)))) rfl ?_
      have hp3 : (pn3 (σ 5) t n k S).2.1 ≤ t := pn3_le hi
      refine r_aload_n (pc := 132) C 1 dX6_personHere_132 rfl rfl ?_
      refine r_aload_n (pc := 133) C 1 dX6_personHere_133 rfl rfl ?_
      refine r_bipush (pc := 134) C 99 dX6_personHere_134 (by decide) ?_
      refine r_bipush (pc := 136) C 111 dX6_personHere_136 (by decide) ?_
      refine r_bipush (pc := 138) C 105 dX6_personHere_138 (by decide) ?_
      refine r_bipush (pc := 140) C 110 dX6_personHere_140 (by decide) ?_
      refine r_bipush (pc := 142) C 115 dX6_personHere_142 (by decide) ?_
      refine rc_Vi (pc := 144) C (t_X6_isFive' l ad D cs h (su (su (su (su (su (su σ 0 ((pn3 (σ 5) t n k S).2.2)) 7 (fun _ => nI (tkK (σ 5) t (pn3 (σ 5) t n k S).2.1))) 8 (fun _ => nI (tkF (σ 5) t (pn3 (σ 5) t n k S).2.1))) 9 (fun _ => nI (tkT (σ 5) t (pn3 (σ 5) t n k S).2.1))) 10 (fun _ => tkV (σ 5) t (pn3 (σ 5) t n k S).2.1)) 11 (fun _ => bI ((pn3 (σ 5) t n k S).1 = true))) pre post (σ 5) (((((((su_nn (by decide)).trans (su_nn (by decide))).trans (su_nn (by decide))).trans (su_nn (by decide))).trans (su_nn (by decide))).trans (su_nn (by decide)))) (σ 6) (((((((su_nn (by decide)).trans (su_nn (by decide))).trans (su_nn (by decide))).trans (su_nn (by decide))).trans (su_nn (by decide))).trans (su_nn (by decide)))) (fun _ => nI (tkK (σ 5) t (pn3 (σ 5) t n k S).2.1)) (((((su_nn (by decide)).trans (su_nn (by decide))).trans (su_nn (by decide))).trans (su_nn (by decide))).trans su_at) (fun _ => nI (tkF (σ 5) t (pn3 (σ 5) t n k S).2.1)) ((((su_nn (by decide)).trans (su_nn (by decide))).trans (su_nn (by decide))).trans su_at) (fun _ => nI (tkT (σ 5) t (pn3 (σ 5) t n k S).2.1)) (((su_nn (by decide)).trans (su_nn (by decide))).trans su_at) t (pn3 (σ 5) t n k S).2.1 (99 : Int32) (111 : Int32) (105 : Int32) (110 : Int32) (115 : Int32) hT ht hp3 rfl rfl rfl) mv_X6_isFive ml_RX6_101 rfl ⟨Nat.le_of_ble_eq_true rfl, Nat.le_of_ble_eq_true rfl⟩ ⟨rfl, rfl⟩ (q0 := 0) rfl rfl rfl rfl rfl rfl (Nat.le_of_ble_eq_true rfl) dX6_personHere_144 ?_
      refine r_iload_n (pc := 147) C 0 dX6_personHere_147 rfl rfl ?_
      refine r_iconst (pc := 148) C 4 dX6_personHere_148 (by decide) ?_
      refine r_iadd (pc := 149) C dX6_personHere_149 ?_
      refine r_eqi (y := nI (8 + 5 * n + 4)) (nI_add (8 + 5 * n) 4) ?_
      refine r_sipush (pc := 150) C 999 dX6_personHere_150 (by decide) ?_
      refine rc_Vv (pc := 153) C (t_X6_perhaps' l ad D cs h (su (su (su (su (su (su σ 0 ((pn3 (σ 5) t n k S).2.2)) 7 (fun _ => nI (tkK (σ 5) t (pn3 (σ 5) t n k S).2.1))) 8 (fun _ => nI (tkF (σ 5) t (pn3 (σ 5) t n k S).2.1))) 9 (fun _ => nI (tkT (σ 5) t (pn3 (σ 5) t n k S).2.1))) 10 (fun _ => tkV (σ 5) t (pn3 (σ 5) t n k S).2.1)) 11 (fun _ => bI ((pn3 (σ 5) t n k S).1 = true))) pre post ((pn3 (σ 5) t n k S).2.2) ((((((su_nn (by decide)).trans (su_nn (by decide))).trans (su_nn (by decide))).trans (su_nn (by decide))).trans (su_nn (by decide))).trans su_at) (σ 5) (((((((su_nn (by decide)).trans (su_nn (by decide))).trans (su_nn (by decide))).trans (su_nn (by decide))).trans (su_nn (by decide))).trans (su_nn (by decide)))) (σ 6) (((((((su_nn (by decide)).trans (su_nn (by decide))).trans (su_nn (by decide))).trans (su_nn (by decide))).trans (su_nn (by decide))).trans (su_nn (by decide)))) (fun _ => nI (tkK (σ 5) t (pn3 (σ 5) t n k S).2.1)) (((((su_nn (by decide)).trans (su_nn (by decide))).trans (su_nn (by decide))).trans (su_nn (by decide))).trans su_at) (fun _ => nI (tkF (σ 5) t (pn3 (σ 5) t n k S).2.1)) ((((su_nn (by decide)).trans (su_nn (by decide))).trans (su_nn (by decide))).trans su_at) (fun _ => nI (tkT (σ 5) t (pn3 (σ 5) t n k S).2.1)) (((su_nn (by decide)).trans (su_nn (by decide))).trans su_at) (fun _ => tkV (σ 5) t (pn3 (σ 5) t n k S).2.1) ((su_nn (by decide)).trans su_at) (fun _ => bI ((pn3 (σ 5) t n k S).1 = true)) (su_at) t (fiB (σ 5) t (pn3 (σ 5) t n k S).2.1 (99 : Int32) (111 : Int32) (105 : Int32) (110 : Int32) (115 : Int32)) (8 + 5 * n + 4) (999 : Int32) (pn3 (σ 5) t n k S) hT ht hp3 rfl rfl rfl rfl rfl rfl (fun q => by have := pn3_lt q; omega)) mv_X6_perhaps ml_RX6_119 rfl ⟨Nat.le_of_ble_eq_true rfl, Nat.le_of_ble_eq_true rfl⟩ ⟨rfl, rfl⟩ (q0 := 0) rfl rfl rfl rfl rfl rfl (Nat.le_of_ble_eq_true rfl) dX6_personHere_153 ?_
      refine r_blk (blk' := wM cs h (su (su (su (su (su (su σ 0 ((phS (σ 5) t (fiB (σ 5) t (pn3 (σ 5) t n k S).2.1 (99 : Int32) (111 : Int32) (105 : Int32) (110 : Int32) (115 : Int32)) (8 + 5 * n + 4) (999 : Int32) (pn3 (σ 5) t n k S)).2.2)) 7 (fun _ => nI (tkK (σ 5) t (phS (σ 5) t (fiB (σ 5) t (pn3 (σ 5) t n k S).2.1 (99 : Int32) (111 : Int32) (105 : Int32) (110 : Int32) (115 : Int32)) (8 + 5 * n + 4) (999 : Int32) (pn3 (σ 5) t n k S)).2.1))) 8 (fun _ => nI (tkF (σ 5) t (phS (σ 5) t (fiB (σ 5) t (pn3 (σ 5) t n k S).2.1 (99 : Int32) (111 : Int32) (105 : Int32) (110 : Int32) (115 : Int32)) (8 + 5 * n + 4) (999 : Int32) (pn3 (σ 5) t n k S)).2.1))) 9 (fun _ => nI (tkT (σ 5) t (phS (σ 5) t (fiB (σ 5) t (pn3 (σ 5) t n k S).2.1 (99 : Int32) (111 : Int32) (105 : Int32) (110 : Int32) (115 : Int32)) (8 + 5 * n + 4) (999 : Int32) (pn3 (σ 5) t n k S)).2.1))) 10 (fun _ => tkV (σ 5) t (phS (σ 5) t (fiB (σ 5) t (pn3 (σ 5) t n k S).2.1 (99 : Int32) (111 : Int32) (105 : Int32) (110 : Int32) (115 : Int32)) (8 + 5 * n + 4) (999 : Int32) (pn3 (σ 5) t n k S)).2.1)) 11 (fun _ => bI ((phS (σ 5) t (fiB (σ 5) t (pn3 (σ 5) t n k S).2.1 (99 : Int32) (111 : Int32) (105 : Int32) (110 : Int32) (115 : Int32)) (8 + 5 * n + 4) (999 : Int32) (pn3 (σ 5) t n k S)).1 = true)))) (congrArg (wM cs h) (by rw [su_cm (k := 11) (j := 0) (by decide), su_cm (k := 10) (j := 0) (by decide), su_cm (k := 9) (j := 0) (by decide), su_cm (k := 8) (j := 0) (by decide), su_cm (k := 7) (j := 0) (by decide), su_su (k := 0), su_cm (k := 11) (j := 7) (by decide), su_cm (k := 10) (j := 7) (by decide), su_cm (k := 9) (j := 7) (by decide), su_cm (k := 8) (j := 7) (by decide), su_su (k := 7), su_cm (k := 11) (j := 8) (by decide), su_cm (k := 10) (j := 8) (by decide), su_cm (k := 9) (j := 8) (by decide), su_su (k := 8), su_cm (k := 11) (j := 9) (by decide), su_cm (k := 10) (j := 9) (by decide), su_su (k := 9), su_cm (k := 11) (j := 10) (by decide), su_su (k := 10), su_su (k := 11)])) ?_
      have f_11 : (phS (σ 5) t (fiB (σ 5) t (pn3 (σ 5) t n k S).2.1 (99 : Int32) (111 : Int32) (105 : Int32) (110 : Int32) (115 : Int32)) (8 + 5 * n + 4) (999 : Int32) (pn3 (σ 5) t n k S)).2.1 ≤ t := phS_le hp3
      refine r_blk (blk' := wM cs h (su (su (su (su (su (su σ 0 ((pnS (σ 5) t n k S).2.2)) 7 (fun _ => nI (tkK (σ 5) t (pnS (σ 5) t n k S).2.1))) 8 (fun _ => nI (tkF (σ 5) t (pnS (σ 5) t n k S).2.1))) 9 (fun _ => nI (tkT (σ 5) t (pnS (σ 5) t n k S).2.1))) 10 (fun _ => tkV (σ 5) t (pnS (σ 5) t n k S).2.1)) 11 (fun _ => bI ((pnS (σ 5) t n k S).1 = true)))) rfl ?_
      exact r_vret (pc := 156) C hr hlk dX6_personHere_156 rfl
  · skip
    have c_1 := nIc_ge_f (a := n) (b := 8) (by omega) (by omega) c_1
    refine r_iconst (pc := 24) C 1 dX6_personHere_24 (by decide) ?_
    refine r_goto (pc := 25) C 29 dX6_personHere_25 (by decide) ?_
    have h8 : decide (n < 8) = true := decide_eq_true (by omega)
    refine r_eqi (y := bI (decide (n < 8) = true)) (by rw [h8]; rfl) ?_
    refine rc_Vv (pc := 29) C (t_X6_needs' l ad D cs h (su (su (su (su (su (su σ 0 S.2.2) 7 (fun _ => nI (tkK (σ 5) t S.2.1))) 8 (fun _ => nI (tkF (σ 5) t S.2.1))) 9 (fun _ => nI (tkT (σ 5) t S.2.1))) 10 (fun _ => tkV (σ 5) t S.2.1)) 11 (fun _ => bI (S.1 = true))) pre post S.2.2 ((((((su_nn (by decide)).trans (su_nn (by decide))).trans (su_nn (by decide))).trans (su_nn (by decide))).trans (su_nn (by decide))).trans su_at) (σ 5) (((((((su_nn (by decide)).trans (su_nn (by decide))).trans (su_nn (by decide))).trans (su_nn (by decide))).trans (su_nn (by decide))).trans (su_nn (by decide)))) (σ 6) (((((((su_nn (by decide)).trans (su_nn (by decide))).trans (su_nn (by decide))).trans (su_nn (by decide))).trans (su_nn (by decide))).trans (su_nn (by decide)))) (fun _ => nI (tkK (σ 5) t S.2.1)) (((((su_nn (by decide)).trans (su_nn (by decide))).trans (su_nn (by decide))).trans (su_nn (by decide))).trans su_at) (fun _ => nI (tkF (σ 5) t S.2.1)) ((((su_nn (by decide)).trans (su_nn (by decide))).trans (su_nn (by decide))).trans su_at) (fun _ => nI (tkT (σ 5) t S.2.1)) (((su_nn (by decide)).trans (su_nn (by decide))).trans su_at) (fun _ => tkV (σ 5) t S.2.1) ((su_nn (by decide)).trans su_at) (fun _ => bI (S.1 = true)) (su_at) t (decide (n < 8)) S hT ht hi rfl rfl rfl rfl rfl rfl) mv_X6_needs ml_RX6_111 rfl ⟨Nat.le_of_ble_eq_true rfl, Nat.le_of_ble_eq_true rfl⟩ ⟨rfl, rfl⟩ (q0 := 0) rfl rfl rfl rfl rfl rfl (Nat.le_of_ble_eq_true rfl) dX6_personHere_29 ?_
    refine r_blk (blk' := wM cs h (su (su (su (su (su (su σ 0 ((ndS (σ 5) t (decide (n < 8)) S).2.2)) 7 (fun _ => nI (tkK (σ 5) t (ndS (σ 5) t (decide (n < 8)) S).2.1))) 8 (fun _ => nI (tkF (σ 5) t (ndS (σ 5) t (decide (n < 8)) S).2.1))) 9 (fun _ => nI (tkT (σ 5) t (ndS (σ 5) t (decide (n < 8)) S).2.1))) 10 (fun _ => tkV (σ 5) t (ndS (σ 5) t (decide (n < 8)) S).2.1)) 11 (fun _ => bI ((ndS (σ 5) t (decide (n < 8)) S).1 = true)))) (congrArg (wM cs h) (by rw [su_cm (k := 11) (j := 0) (by decide), su_cm (k := 10) (j := 0) (by decide), su_cm (k := 9) (j := 0) (by decide), su_cm (k := 8) (j := 0) (by decide), su_cm (k := 7) (j := 0) (by decide), su_su (k := 0), su_cm (k := 11) (j := 7) (by decide), su_cm (k := 10) (j := 7) (by decide), su_cm (k := 9) (j := 7) (by decide), su_cm (k := 8) (j := 7) (by decide), su_su (k := 7), su_cm (k := 11) (j := 8) (by decide), su_cm (k := 10) (j := 8) (by decide), su_cm (k := 9) (j := 8) (by decide), su_su (k := 8), su_cm (k := 11) (j := 9) (by decide), su_cm (k := 10) (j := 9) (by decide), su_su (k := 9), su_cm (k := 11) (j := 10) (by decide), su_su (k := 10), su_su (k := 11)])) ?_
    have f_12 : (ndS (σ 5) t (decide (n < 8)) S).2.1 ≤ t := ndS_le hi
    have hN8 : (ndS (σ 5) t (decide (n < 8)) S).2.2 0 = nI n := by rw [ndS_m]; exact hN
    refine r_aload_n (pc := 32) C 1 dX6_personHere_32 rfl rfl ?_
    refine mg_isWrong (pc := 33) C fl_RX6_90 dX6_personHere_33 (bI ((ndS (σ 5) t (decide (n < 8)) S).1 = true)) (congrFun (su_at) 0) ?_
    refine r_if_ne (pc := 36) C 66 dX6_personHere_36 (by decide) (fun c_13 => ?_) (fun c_13 => ?_)
    · skip
      have c_13 := bI_n.mp c_13
      refine r_blk (blk' := wM cs h (su (su (su (su (su (su σ 0 ((pn0 (σ 5) t n k S).2.2)) 7 (fun _ => nI (tkK (σ 5) t (pn0 (σ 5) t n k S).2.1))) 8 (fun _ => nI (tkF (σ 5) t (pn0 (σ 5) t n k S).2.1))) 9 (fun _ => nI (tkT (σ 5) t (pn0 (σ 5) t n k S).2.1))) 10 (fun _ => tkV (σ 5) t (pn0 (σ 5) t n k S).2.1)) 11 (fun _ => bI ((pn0 (σ 5) t n k S).1 = true)))) (by rw [show (pn0 (σ 5) t n k S) = (ndS (σ 5) t (decide (n < 8)) S) from if_pos ‹_›] <;> rfl) ?_
      have hp0 : (pn0 (σ 5) t n k S).2.1 ≤ t := pn0_le hi
      refine r_aload_n (pc := 66) C 1 dX6_personHere_66 rfl rfl ?_
      refine r_aload_n (pc := 67) C 1 dX6_personHere_67 rfl rfl ?_
      refine r_bipush (pc := 68) C 116 dX6_personHere_68 (by decide) ?_
      refine r_bipush (pc := 70) C 114 dX6_personHere_70 (by decide) ?_
      refine r_bipush (pc := 72) C 117 dX6_personHere_72 (by decide) ?_
      refine r_bipush (pc := 74) C 116 dX6_personHere_74 (by decide) ?_
      refine r_bipush (pc := 76) C 104 dX6_personHere_76 (by decide) ?_
      refine rc_Vi (pc := 78) C (t_X6_isFive' l ad D cs h (su (su (su (su (su (su σ 0 ((pn0 (σ 5) t n k S).2.2)) 7 (fun _ => nI (tkK (σ 5) t (pn0 (σ 5) t n k S).2.1))) 8 (fun _ => nI (tkF (σ 5) t (pn0 (σ 5) t n k S).2.1))) 9 (fun _ => nI (tkT (σ 5) t (pn0 (σ 5) t n k S).2.1))) 10 (fun _ => tkV (σ 5) t (pn0 (σ 5) t n k S).2.1)) 11 (fun _ => bI ((pn0 (σ 5) t n k S).1 = true))) pre post (σ 5) (((((((su_nn (by decide)).trans (su_nn (by decide))).trans (su_nn (by decide))).trans (su_nn (by decide))).trans (su_nn (by decide))).trans (su_nn (by decide)))) (σ 6) (((((((su_nn (by decide)).trans (su_nn (by decide))).trans (su_nn (by decide))).trans (su_nn (by decide))).trans (su_nn (by decide))).trans (su_nn (by decide)))) (fun _ => nI (tkK (σ 5) t (pn0 (σ 5) t n k S).2.1)) (((((su_nn (by decide)).trans (su_nn (by decide))).trans (su_nn (by decide))).trans (su_nn (by decide))).trans su_at) (fun _ => nI (tkF (σ 5) t (pn0 (σ 5) t n k S).2.1)) ((((su_nn (by decide)).trans (su_nn (by decide))).trans (su_nn (by decide))).trans su_at) (fun _ => nI (tkT (σ 5) t (pn0 (σ 5) t n k S).2.1)) (((su_nn (by decide)).trans (su_nn (by decide))).trans su_at) t (pn0 (σ 5) t n k S).2.1 (116 : Int32) (114 : Int32) (117 : Int32) (116 : Int32) (104 : Int32) hT ht hp0 rfl rfl rfl) mv_X6_isFive ml_RX6_101 rfl ⟨Nat.le_of_ble_eq_true rfl, Nat.le_of_ble_eq_true rfl⟩ ⟨rfl, rfl⟩ (q0 := 0) rfl rfl rfl rfl rfl rfl (Nat.le_of_ble_eq_true rfl) dX6_personHere_78 ?_
      refine r_iload_n (pc := 81) C 0 dX6_personHere_81 rfl rfl ?_
      refine r_iconst (pc := 82) C 1 dX6_personHere_82 (by decide) ?_
      refine r_iadd (pc := 83) C dX6_personHere_83 ?_
      refine r_eqi (y := nI (8 + 5 * n + 1)) (nI_add (8 + 5 * n) 1) ?_
      refine r_bipush (pc := 84) C 99 dX6_personHere_84 (by decide) ?_
      refine rc_Vv (pc := 86) C (t_X6_perhaps' l ad D cs h (su (su (su (su (su (su σ 0 ((pn0 (σ 5) t n k S).2.2)) 7 (fun _ => nI (tkK (σ 5) t (pn0 (σ 5) t n k S).2.1))) 8 (fun _ => nI (tkF (σ 5) t (pn0 (σ 5) t n k S).2.1))) 9 (fun _ => nI (tkT (σ 5) t (pn0 (σ 5) t n k S).2.1))) 10 (fun _ => tkV (σ 5) t (pn0 (σ 5) t n k S).2.1)) 11 (fun _ => bI ((pn0 (σ 5) t n k S).1 = true))) pre post ((pn0 (σ 5) t n k S).2.2) ((((((su_nn (by decide)).trans (su_nn (by decide))).trans (su_nn (by decide))).trans (su_nn (by decide))).trans (su_nn (by decide))).trans su_at) (σ 5) (((((((su_nn (by decide)).trans (su_nn (by decide))).trans (su_nn (by decide))).trans (su_nn (by decide))).trans (su_nn (by decide))).trans (su_nn (by decide)))) (σ 6) (((((((su_nn (by decide)).trans (su_nn (by decide))).trans (su_nn (by decide))).trans (su_nn (by decide))).trans (su_nn (by decide))).trans (su_nn (by decide)))) (fun _ => nI (tkK (σ 5) t (pn0 (σ 5) t n k S).2.1)) (((((su_nn (by decide)).trans (su_nn (by decide))).trans (su_nn (by decide))).trans (su_nn (by decide))).trans su_at) (fun _ => nI (tkF (σ 5) t (pn0 (σ 5) t n k S).2.1)) ((((su_nn (by decide)).trans (su_nn (by decide))).trans (su_nn (by decide))).trans su_at) (fun _ => nI (tkT (σ 5) t (pn0 (σ 5) t n k S).2.1)) (((su_nn (by decide)).trans (su_nn (by decide))).trans su_at) (fun _ => tkV (σ 5) t (pn0 (σ 5) t n k S).2.1) ((su_nn (by decide)).trans su_at) (fun _ => bI ((pn0 (σ 5) t n k S).1 = true)) (su_at) t (fiB (σ 5) t (pn0 (σ 5) t n k S).2.1 (116 : Int32) (114 : Int32) (117 : Int32) (116 : Int32) (104 : Int32)) (8 + 5 * n + 1) (99 : Int32) (pn0 (σ 5) t n k S) hT ht hp0 rfl rfl rfl rfl rfl rfl (fun q => by have := pn0_lt q; omega)) mv_X6_perhaps ml_RX6_119 rfl ⟨Nat.le_of_ble_eq_true rfl, Nat.le_of_ble_eq_true rfl⟩ ⟨rfl, rfl⟩ (q0 := 0) rfl rfl rfl rfl rfl rfl (Nat.le_of_ble_eq_true rfl) dX6_personHere_86 ?_
      refine r_blk (blk' := wM cs h (su (su (su (su (su (su σ 0 ((phS (σ 5) t (fiB (σ 5) t (pn0 (σ 5) t n k S).2.1 (116 : Int32) (114 : Int32) (117 : Int32) (116 : Int32) (104 : Int32)) (8 + 5 * n + 1) (99 : Int32) (pn0 (σ 5) t n k S)).2.2)) 7 (fun _ => nI (tkK (σ 5) t (phS (σ 5) t (fiB (σ 5) t (pn0 (σ 5) t n k S).2.1 (116 : Int32) (114 : Int32) (117 : Int32) (116 : Int32) (104 : Int32)) (8 + 5 * n + 1) (99 : Int32) (pn0 (σ 5) t n k S)).2.1))) 8 (fun _ => nI (tkF (σ 5) t (phS (σ 5) t (fiB (σ 5) t (pn0 (σ 5) t n k S).2.1 (116 : Int32) (114 : Int32) (117 : Int32) (116 : Int32) (104 : Int32)) (8 + 5 * n + 1) (99 : Int32) (pn0 (σ 5) t n k S)).2.1))) 9 (fun _ => nI (tkT (σ 5) t (phS (σ 5) t (fiB (σ 5) t (pn0 (σ 5) t n k S).2.1 (116 : Int32) (114 : Int32) (117 : Int32) (116 : Int32) (104 : Int32)) (8 + 5 * n + 1) (99 : Int32) (pn0 (σ 5) t n k S)).2.1))) 10 (fun _ => tkV (σ 5) t (phS (σ 5) t (fiB (σ 5) t (pn0 (σ 5) t n k S).2.1 (116 : Int32) (114 : Int32) (117 : Int32) (116 : Int32) (104 : Int32)) (8 + 5 * n + 1) (99 : Int32) (pn0 (σ 5) t n k S)).2.1)) 11 (fun _ => bI ((phS (σ 5) t (fiB (σ 5) t (pn0 (σ 5) t n k S).2.1 (116 : Int32) (114 : Int32) (117 : Int32) (116 : Int32) (104 : Int32)) (8 + 5 * n + 1) (99 : Int32) (pn0 (σ 5) t n k S)).1 = true)))) (congrArg (wM cs h) (by rw [su_cm (k := 11) (j := 0) (by decide), su_cm (k := 10) (j := 0) (by decide), su_cm (k := 9) (j := 0) (by decide), su_cm (k := 8) (j := 0) (by decide), su_cm (k := 7) (j := 0) (by decide), su_su (k := 0), su_cm (k := 11) (j := 7) (by decide), su_cm (k := 10) (j := 7) (by decide), su_cm (k := 9) (j := 7) (by decide), su_cm (k := 8) (j := 7) (by decide), su_su (k := 7), su_cm (k := 11) (j := 8) (by decide), su_cm (k := 10) (j := 8) (by decide), su_cm (k := 9) (j := 8) (by decide), su_su (k := 8), su_cm (k := 11) (j := 9) (by decide), su_cm (k := 10) (j := 9) (by decide), su_su (k := 9), su_cm (k := 11) (j := 10) (by decide), su_su (k := 10), su_su (k := 11)])) ?_
      have f_14 : (phS (σ 5) t (fiB (σ 5) t (pn0 (σ 5) t n k S).2.1 (116 : Int32) (114 : Int32) (117 : Int32) (116 : Int32) (104 : Int32)) (8 + 5 * n + 1) (99 : Int32) (pn0 (σ 5) t n k S)).2.1 ≤ t := phS_le hp0
      refine r_blk (blk' := wM cs h (su (su (su (su (su (su σ 0 ((pn1 (σ 5) t n k S).2.2)) 7 (fun _ => nI (tkK (σ 5) t (pn1 (σ 5) t n k S).2.1))) 8 (fun _ => nI (tkF (σ 5) t (pn1 (σ 5) t n k S).2.1))) 9 (fun _ => nI (tkT (σ 5) t (pn1 (σ 5) t n k S).2.1))) 10 (fun _ => tkV (σ 5) t (pn1 (σ 5) t n k S).2.1)) 11 (fun _ => bI ((pn1 (σ 5) t n k S).1 = true)))) rfl ?_
      have hp1 : (pn1 (σ 5) t n k S).2.1 ≤ t := pn1_le hi
      refine r_aload_n (pc := 89) C 1 dX6_personHere_89 rfl rfl ?_
      refine r_aload_n (pc := 90) C 1 dX6_personHere_90 rfl rfl ?_
      refine r_bipush (pc := 91) C 119 dX6_personHere_91 (by decide) ?_
      refine r_bipush (pc := 93) C 105 dX6_personHere_93 (by decide) ?_
      refine r_bipush (pc := 95) C 115 dX6_personHere_95 (by decide) ?_
      refine r_bipush (pc := 97) C 104 dX6_personHere_97 (by decide) ?_
      refine rc_Vi (pc := 99) C (t_X6_isFour' l ad D cs h (su (su (su (su (su (su σ 0 ((pn1 (σ 5) t n k S).2.2)) 7 (fun _ => nI (tkK (σ 5) t (pn1 (σ 5) t n k S).2.1))) 8 (fun _ => nI (tkF (σ 5) t (pn1 (σ 5) t n k S).2.1))) 9 (fun _ => nI (tkT (σ 5) t (pn1 (σ 5) t n k S).2.1))) 10 (fun _ => tkV (σ 5) t (pn1 (σ 5) t n k S).2.1)) 11 (fun _ => bI ((pn1 (σ 5) t n k S).1 = true))) pre post (σ 5) (((((((su_nn (by decide)).trans (su_nn (by decide))).trans (su_nn (by decide))).trans (su_nn (by decide))).trans (su_nn (by decide))).trans (su_nn (by decide)))) (σ 6) (((((((su_nn (by decide)).trans (su_nn (by decide))).trans (su_nn (by decide))).trans (su_nn (by decide))).trans (su_nn (by decide))).trans (su_nn (by decide)))) (fun _ => nI (tkK (σ 5) t (pn1 (σ 5) t n k S).2.1)) (((((su_nn (by decide)).trans (su_nn (by decide))).trans (su_nn (by decide))).trans (su_nn (by decide))).trans su_at) (fun _ => nI (tkF (σ 5) t (pn1 (σ 5) t n k S).2.1)) ((((su_nn (by decide)).trans (su_nn (by decide))).trans (su_nn (by decide))).trans su_at) (fun _ => nI (tkT (σ 5) t (pn1 (σ 5) t n k S).2.1)) (((su_nn (by decide)).trans (su_nn (by decide))).trans su_at) t (pn1 (σ 5) t n k S).2.1 (119 : Int32) (105 : Int32) (115 : Int32) (104 : Int32) hT ht hp1 rfl rfl rfl) mv_X6_isFour ml_RX6_104 rfl ⟨Nat.le_of_ble_eq_true rfl, Nat.le_of_ble_eq_true rfl⟩ ⟨rfl, rfl⟩ (q0 := 0) rfl rfl rfl rfl rfl rfl (Nat.le_of_ble_eq_true rfl) dX6_personHere_99 ?_
      refine r_iload_n (pc := 102) C 0 dX6_personHere_102 rfl rfl ?_
      refine r_iconst (pc := 103) C 2 dX6_personHere_103 (by decide) ?_
      refine r_iadd (pc := 104) C dX6_personHere_104 ?_
      refine r_eqi (y := nI (8 + 5 * n + 2)) (nI_add (8 + 5 * n) 2) ?_
      refine r_bipush (pc := 105) C 99 dX6_personHere_105 (by decide) ?_
      refine rc_Vv (pc := 107) C (t_X6_perhaps' l ad D cs h (su (su (su (su (su (su σ 0 ((pn1 (σ 5) t n k S).2.2)) 7 (fun _ => nI (tkK (σ 5) t (pn1 (σ 5) t n k S).2.1))) 8 (fun _ => nI (tkF (σ 5) t (pn1 (σ 5) t n k S).2.1))) 9 (fun _ => nI (tkT (σ 5) t (pn1 (σ 5) t n k S).2.1))) 10 (fun _ => tkV (σ 5) t (pn1 (σ 5) t n k S).2.1)) 11 (fun _ => bI ((pn1 (σ 5) t n k S).1 = true))) pre post ((pn1 (σ 5) t n k S).2.2) ((((((su_nn (by decide)).trans (su_nn (by decide))).trans (su_nn (by decide))).trans (su_nn (by decide))).trans (su_nn (by decide))).trans su_at) (σ 5) (((((((su_nn (by decide)).trans (su_nn (by decide))).trans (su_nn (by decide))).trans (su_nn (by decide))).trans (su_nn (by decide))).trans (su_nn (by decide)))) (σ 6) (((((((su_nn (by decide)).trans (su_nn (by decide))).trans (su_nn (by decide))).trans (su_nn (by decide))).trans (su_nn (by decide))).trans (su_nn (by decide)))) (fun _ => nI (tkK (σ 5) t (pn1 (σ 5) t n k S).2.1)) (((((su_nn (by decide)).trans (su_nn (by decide))).trans (su_nn (by decide))).trans (su_nn (by decide))).trans su_at) (fun _ => nI (tkF (σ 5) t (pn1 (σ 5) t n k S).2.1)) ((((su_nn (by decide)).trans (su_nn (by decide))).trans (su_nn (by decide))).trans su_at) (fun _ => nI (tkT (σ 5) t (pn1 (σ 5) t n k S).2.1)) (((su_nn (by decide)).trans (su_nn (by decide))).trans su_at) (fun _ => tkV (σ 5) t (pn1 (σ 5) t n k S).2.1) ((su_nn (by decide)).trans su_at) (fun _ => bI ((pn1 (σ 5) t n k S).1 = true)) (su_at) t (nmB (σ 5) t (pn1 (σ 5) t n k S).2.1 4 (119 : Int32) (105 : Int32) (115 : Int32) (104 : Int32)) (8 + 5 * n + 2) (99 : Int32) (pn1 (σ 5) t n k S) hT ht hp1 rfl rfl rfl rfl rfl rfl (fun q => by have := pn1_lt q; omega)) mv_X6_perhaps ml_RX6_119 rfl ⟨Nat.le_of_ble_eq_true rfl, Nat.le_of_ble_eq_true rfl⟩ ⟨rfl, rfl⟩ (q0 := 0) rfl rfl rfl rfl rfl rfl (Nat.le_of_ble_eq_true rfl) dX6_personHere_107 ?_
      refine r_blk (blk' := wM cs h (su (su (su (su (su (su σ 0 ((phS (σ 5) t (nmB (σ 5) t (pn1 (σ 5) t n k S).2.1 4 (119 : Int32) (105 : Int32) (115 : Int32) (104 : Int32)) (8 + 5 * n + 2) (99 : Int32) (pn1 (σ 5) t n k S)).2.2)) 7 (fun _ => nI (tkK (σ 5) t (phS (σ 5) t (nmB (σ 5) t (pn1 (σ 5) t n k S).2.1 4 (119 : Int32) (105 : Int32) (115 : Int32) (104 : Int32)) (8 + 5 * n + 2) (99 : Int32) (pn1 (σ 5) t n k S)).2.1))) 8 (fun _ => nI (tkF (σ 5) t (phS (σ 5) t (nmB (σ 5) t (pn1 (σ 5) t n k S).2.1 4 (119 : Int32) (105 : Int32) (115 : Int32) (104 : Int32)) (8 + 5 * n + 2) (99 : Int32) (pn1 (σ 5) t n k S)).2.1))) 9 (fun _ => nI (tkT (σ 5) t (phS (σ 5) t (nmB (σ 5) t (pn1 (σ 5) t n k S).2.1 4 (119 : Int32) (105 : Int32) (115 : Int32) (104 : Int32)) (8 + 5 * n + 2) (99 : Int32) (pn1 (σ 5) t n k S)).2.1))) 10 (fun _ => tkV (σ 5) t (phS (σ 5) t (nmB (σ 5) t (pn1 (σ 5) t n k S).2.1 4 (119 : Int32) (105 : Int32) (115 : Int32) (104 : Int32)) (8 + 5 * n + 2) (99 : Int32) (pn1 (σ 5) t n k S)).2.1)) 11 (fun _ => bI ((phS (σ 5) t (nmB (σ 5) t (pn1 (σ 5) t n k S).2.1 4 (119 : Int32) (105 : Int32) (115 : Int32) (104 : Int32)) (8 + 5 * n + 2) (99 : Int32) (pn1 (σ 5) t n k S)).1 = true)))) (congrArg (wM cs h) (by rw [su_cm (k := 11) (j := 0) (by decide), su_cm (k := 10) (j := 0) (by decide), su_cm (k := 9) (j := 0) (by decide), su_cm (k := 8) (j := 0) (by decide), su_cm (k := 7) (j := 0) (by decide), su_su (k := 0), su_cm (k := 11) (j := 7) (by decide), su_cm (k := 10) (j := 7) (by decide), su_cm (k := 9) (j := 7) (by decide), su_cm (k := 8) (j := 7) (by decide), su_su (k := 7), su_cm (k := 11) (j := 8) (by decide), su_cm (k := 10) (j := 8) (by decide), su_cm (k := 9) (j := 8) (by decide), su_su (k := 8), su_cm (k := 11) (j := 9) (by decide), su_cm (k := 10) (j := 9) (by decide), su_su (k := 9), su_cm (k := 11) (j := 10) (by decide), su_su (k := 10), su_su (k := 11)])) ?_
      have f_15 : (phS (σ 5) t (nmB (σ 5) t (pn1 (σ 5) t n k S).2.1 4 (119 : Int32) (105 : Int32) (115 : Int32) (104 : Int32)) (8 + 5 * n + 2) (99 : Int32) (pn1 (σ 5) t n k S)).2.1 ≤ t := phS_le hp1
      refine r_blk (blk' := wM cs h (su (su (su (su (su (su σ 0 ((pn2 (σ 5) t n k S).2.2)) 7 (fun _ => nI (tkK (σ 5) t (pn2 (σ 5) t n k S).2.1))) 8 (fun _ => nI (tkF (σ 5) t (pn2 (σ 5) t n k S).2.1))) 9 (fun _ => nI (tkT (σ 5) t (pn2 (σ 5) t n k S).2.1))) 10 (fun _ => tkV (σ 5) t (pn2 (σ 5) t n k S).2.1)) 11 (fun _ => bI ((pn2 (σ 5) t n k S).1 = true)))) rfl ?_
      have hp2 : (pn2 (σ 5) t n k S).2.1 ≤ t := pn2_le hi
      refine r_aload_n (pc := 110) C 1 dX6_personHere_110 rfl rfl ?_
      refine r_aload_n (pc := 111) C 1 dX6_personHere_111 rfl rfl ?_
      refine r_iconst (pc := 112) C 3 dX6_personHere_112 (by decide) ?_
      refine r_bipush (pc := 113) C 119 dX6_personHere_113 (by decide) ?_
      refine r_bipush (pc := 115) C 101 dX6_personHere_115 (by decide) ?_
      refine r_bipush (pc := 117) C 98 dX6_personHere_117 (by decide) ?_
      refine r_bipush (pc := 119) C 98 dX6_personHere_119 (by decide) ?_
      refine rc_Vi (pc := 121) C (t_X6_isName' l ad D cs h (su (su (su (su (su (su σ 0 ((pn2 (σ 5) t n k S).2.2)) 7 (fun _ => nI (tkK (σ 5) t (pn2 (σ 5) t n k S).2.1))) 8 (fun _ => nI (tkF (σ 5) t (pn2 (σ 5) t n k S).2.1))) 9 (fun _ => nI (tkT (σ 5) t (pn2 (σ 5) t n k S).2.1))) 10 (fun _ => tkV (σ 5) t (pn2 (σ 5) t n k S).2.1)) 11 (fun _ => bI ((pn2 (σ 5) t n k S).1 = true))) pre post (σ 5) (((((((su_nn (by decide)).trans (su_nn (by decide))).trans (su_nn (by decide))).trans (su_nn (by decide))).trans (su_nn (by decide))).trans (su_nn (by decide)))) (σ 6) (((((((su_nn (by decide)).trans (su_nn (by decide))).trans (su_nn (by decide))).trans (su_nn (by decide))).trans (su_nn (by decide))).trans (su_nn (by decide)))) (fun _ => nI (tkK (σ 5) t (pn2 (σ 5) t n k S).2.1)) (((((su_nn (by decide)).trans (su_nn (by decide))).trans (su_nn (by decide))).trans (su_nn (by decide))).trans su_at) (fun _ => nI (tkF (σ 5) t (pn2 (σ 5) t n k S).2.1)) ((((su_nn (by decide)).trans (su_nn (by decide))).trans (su_nn (by decide))).trans su_at) (fun _ => nI (tkT (σ 5) t (pn2 (σ 5) t n k S).2.1)) (((su_nn (by decide)).trans (su_nn (by decide))).trans su_at) t (pn2 (σ 5) t n k S).2.1 3 (119 : Int32) (101 : Int32) (98 : Int32) (98 : Int32) hT ht hp2 rfl rfl rfl (by omega)) mv_X6_isName ml_RX6_97 rfl ⟨Nat.le_of_ble_eq_true rfl, Nat.le_of_ble_eq_true rfl⟩ ⟨rfl, rfl⟩ (q0 := 0) rfl rfl rfl rfl rfl rfl (Nat.le_of_ble_eq_true rfl) dX6_personHere_121 ?_
      refine r_iload_n (pc := 124) C 0 dX6_personHere_124 rfl rfl ?_
      refine r_iconst (pc := 125) C 3 dX6_personHere_125 (by decide) ?_
      refine r_iadd (pc := 126) C dX6_personHere_126 ?_
      refine r_eqi (y := nI (8 + 5 * n + 3)) (nI_add (8 + 5 * n) 3) ?_
      refine r_bipush (pc := 127) C 99 dX6_personHere_127 (by decide) ?_
      refine rc_Vv (pc := 129) C (t_X6_perhaps' l ad D cs h (su (su (su (su (su (su σ 0 ((pn2 (σ 5) t n k S).2.2)) 7 (fun _ => nI (tkK (σ 5) t (pn2 (σ 5) t n k S).2.1))) 8 (fun _ => nI (tkF (σ 5) t (pn2 (σ 5) t n k S).2.1))) 9 (fun _ => nI (tkT (σ 5) t (pn2 (σ 5) t n k S).2.1))) 10 (fun _ => tkV (σ 5) t (pn2 (σ 5) t n k S).2.1)) 11 (fun _ => bI ((pn2 (σ 5) t n k S).1 = true))) pre post ((pn2 (σ 5) t n k S).2.2) ((((((su_nn (by decide)).trans (su_nn (by decide))).trans (su_nn (by decide))).trans (su_nn (by decide))).trans (su_nn (by decide))).trans su_at) (σ 5) (((((((su_nn (by decide)).trans (su_nn (by decide))).trans (su_nn (by decide))).trans (su_nn (by decide))).trans (su_nn (by decide))).trans (su_nn (by decide)))) (σ 6) (((((((su_nn (by decide)).trans (su_nn (by decide))).trans (su_nn (by decide))).trans (su_nn (by decide))).trans (su_nn (by decide))).trans (su_nn (by decide)))) (fun _ => nI (tkK (σ 5) t (pn2 (σ 5) t n k S).2.1)) (((((su_nn (by decide)).trans (su_nn (by decide))).trans (su_nn (by decide))).trans (su_nn (by decide))).trans su_at) (fun _ => nI (tkF (σ 5) t (pn2 (σ 5) t n k S).2.1)) ((((su_nn (by decide)).trans (su_nn (by decide))).trans (su_nn (by decide))).trans su_at) (fun _ => nI (tkT (σ 5) t (pn2 (σ 5) t n k S).2.1)) (((su_nn (by decide)).trans (su_nn (by decide))).trans su_at) (fun _ => tkV (σ 5) t (pn2 (σ 5) t n k S).2.1) ((su_nn (by decide)).trans su_at) (fun _ => bI ((pn2 (σ 5) t n k S).1 = true)) (su_at) t (nmB (σ 5) t (pn2 (σ 5) t n k S).2.1 3 (119 : Int32) (101 : Int32) (98 : Int32) (98 : Int32)) (8 + 5 * n + 3) (99 : Int32) (pn2 (σ 5) t n k S) hT ht hp2 rfl rfl rfl rfl rfl rfl (fun q => by have := pn2_lt q; omega)) mv_X6_perhaps ml_RX6_119 rfl ⟨Nat.le_of_ble_eq_true rfl, Nat.le_of_ble_eq_true rfl⟩ ⟨rfl, rfl⟩ (q0 := 0) rfl rfl rfl rfl rfl rfl (Nat.le_of_ble_eq_true rfl) dX6_personHere_129 ?_
      refine r_blk (blk' := wM cs h (su (su (su (su (su (su σ 0 ((phS (σ 5) t (nmB (σ 5) t (pn2 (σ 5) t n k S).2.1 3 (119 : Int32) (101 : Int32) (98 : Int32) (98 : Int32)) (8 + 5 * n + 3) (99 : Int32) (pn2 (σ 5) t n k S)).2.2)) 7 (fun _ => nI (tkK (σ 5) t (phS (σ 5) t (nmB (σ 5) t (pn2 (σ 5) t n k S).2.1 3 (119 : Int32) (101 : Int32) (98 : Int32) (98 : Int32)) (8 + 5 * n + 3) (99 : Int32) (pn2 (σ 5) t n k S)).2.1))) 8 (fun _ => nI (tkF (σ 5) t (phS (σ 5) t (nmB (σ 5) t (pn2 (σ 5) t n k S).2.1 3 (119 : Int32) (101 : Int32) (98 : Int32) (98 : Int32)) (8 + 5 * n + 3) (99 : Int32) (pn2 (σ 5) t n k S)).2.1))) 9 (fun _ => nI (tkT (σ 5) t (phS (σ 5) t (nmB (σ 5) t (pn2 (σ 5) t n k S).2.1 3 (119 : Int32) (101 : Int32) (98 : Int32) (98 : Int32)) (8 + 5 * n + 3) (99 : Int32) (pn2 (σ 5) t n k S)).2.1))) 10 (fun _ => tkV (σ 5) t (phS (σ 5) t (nmB (σ 5) t (pn2 (σ 5) t n k S).2.1 3 (119 : Int32) (101 : Int32) (98 : Int32) (98 : Int32)) (8 + 5 * n + 3) (99 : Int32) (pn2 (σ 5) t n k S)).2.1)) 11 (fun _ => bI ((phS (σ 5) t (nmB (σ 5) t (pn2 (σ 5) t n k S).2.1 3 (119 : Int32) (101 : Int32) (98 : Int32) (98 : Int32)) (8 + 5 * n + 3) (99 : Int32) (pn2 (σ 5) t n k S)).1 = true)))) (congrArg (wM cs h) (by rw [su_cm (k := 11) (j := 0) (by decide), su_cm (k := 10) (j := 0) (by decide), su_cm (k := 9) (j := 0) (by decide), su_cm (k := 8) (j := 0) (by decide), su_cm (k := 7) (j := 0) (by decide), su_su (k := 0), su_cm (k := 11) (j := 7) (by decide), su_cm (k := 10) (j := 7) (by decide), su_cm (k := 9) (j := 7) (by decide), su_cm (k := 8) (j := 7) (by decide), su_su (k := 7), su_cm (k := 11) (j := 8) (by decide), su_cm (k := 10) (j := 8) (by decide), su_cm (k := 9) (j := 8) (by decide), su_su (k := 8), su_cm (k := 11) (j := 9) (by decide), su_cm (k := 10) (j := 9) (by decide), su_su (k := 9), su_cm (k := 11) (j := 10) (by decide), su_su (k := 10), su_su (k := 11)])) ?_
      have f_16 : (phS (σ 5) t (nmB (σ 5) t (pn2 (σ 5) t n k S).2.1 3 (119 : Int32) (101 : Int32) (98 : Int32) (98 : Int32)) (8 + 5 * n + 3) (99 : Int32) (pn2 (σ 5) t n k S)).2.1 ≤ t := phS_le hp2
      refine r_blk (blk' := wM cs h (su (su (su (su (su (su σ 0 ((pn3 (σ 5) t n k S).2.2)) 7 (fun _ => nI (tkK (σ 5) t (pn3 (σ 5) t n k S).2.1))) 8 (fun _ => nI (tkF (σ 5) t (pn3 (σ 5) t n k S).2.1))) 9 (fun _ => nI (tkT (σ 5) t (pn3 (σ 5) t n k S).2.1))) 10 (fun _ => tkV (σ 5) t (pn3 (σ 5) t n k S).2.1)) 11 (fun _ => bI ((pn3 (σ 5) t n k S).1 = true)))) rfl ?_
      have hp3 : (pn3 (σ 5) t n k S).2.1 ≤ t := pn3_le hi
      refine r_aload_n (pc := 132) C 1 dX6_personHere_132 rfl rfl ?_
      refine r_aload_n (pc := 133) C 1 dX6_personHere_133 rfl rfl ?_
      refine r_bipush (pc := 134) C 99 dX6_personHere_134 (by decide) ?_
      refine r_bipush (pc := 136) C 111 dX6_personHere_136 (by decide) ?_
      refine r_bipush (pc := 138) C 105 dX6_personHere_138 (by decide) ?_
      refine r_bipush (pc := 140) C 110 dX6_personHere_140 (by decide) ?_
      refine r_bipush (pc := 142) C 115 dX6_personHere_142 (by decide) ?_
      refine rc_Vi (pc := 144) C (t_X6_isFive' l ad D cs h (su (su (su (su (su (su σ 0 ((pn3 (σ 5) t n k S).2.2)) 7 (fun _ => nI (tkK (σ 5) t (pn3 (σ 5) t n k S).2.1))) 8 (fun _ => nI (tkF (σ 5) t (pn3 (σ 5) t n k S).2.1))) 9 (fun _ => nI (tkT (σ 5) t (pn3 (σ 5) t n k S).2.1))) 10 (fun _ => tkV (σ 5) t (pn3 (σ 5) t n k S).2.1)) 11 (fun _ => bI ((pn3 (σ 5) t n k S).1 = true))) pre post (σ 5) (((((((su_nn (by decide)).trans (su_nn (by decide))).trans (su_nn (by decide))).trans (su_nn (by decide))).trans (su_nn (by decide))).trans (su_nn (by decide)))) (σ 6) (((((((su_nn (by decide)).trans (su_nn (by decide))).trans (su_nn (by decide))).trans (su_nn (by decide))).trans (su_nn (by decide))).trans (su_nn (by decide)))) (fun _ => nI (tkK (σ 5) t (pn3 (σ 5) t n k S).2.1)) (((((su_nn (by decide)).trans (su_nn (by decide))).trans (su_nn (by decide))).trans (su_nn (by decide))).trans su_at) (fun _ => nI (tkF (σ 5) t (pn3 (σ 5) t n k S).2.1)) ((((su_nn (by decide)).trans (su_nn (by decide))).trans (su_nn (by decide))).trans su_at) (fun _ => nI (tkT (σ 5) t (pn3 (σ 5) t n k S).2.1)) (((su_nn (by decide)).trans (su_nn (by decide))).trans su_at) t (pn3 (σ 5) t n k S).2.1 (99 : Int32) (111 : Int32) (105 : Int32) (110 : Int32) (115 : Int32) hT ht hp3 rfl rfl rfl) mv_X6_isFive ml_RX6_101 rfl ⟨Nat.le_of_ble_eq_true rfl, Nat.le_of_ble_eq_true rfl⟩ ⟨rfl, rfl⟩ (q0 := 0) rfl rfl rfl rfl rfl rfl (Nat.le_of_ble_eq_true rfl) dX6_personHere_144 ?_
      refine r_iload_n (pc := 147) C 0 dX6_personHere_147 rfl rfl ?_
      refine r_iconst (pc := 148) C 4 dX6_personHere_148 (by decide) ?_
      refine r_iadd (pc := 149) C dX6_personHere_149 ?_
      refine r_eqi (y := nI (8 + 5 * n + 4)) (nI_add (8 + 5 * n) 4) ?_
      refine r_sipush (pc := 150) C 999 dX6_personHere_150 (by decide) ?_
      refine rc_Vv (pc := 153) C (t_X6_perhaps' l ad D cs h (su (su (su (su (su (su σ 0 ((pn3 (σ 5) t n k S).2.2)) 7 (fun _ => nI (tkK (σ 5) t (pn3 (σ 5) t n k S).2.1))) 8 (fun _ => nI (tkF (σ 5) t (pn3 (σ 5) t n k S).2.1))) 9 (fun _ => nI (tkT (σ 5) t (pn3 (σ 5) t n k S).2.1))) 10 (fun _ => tkV (σ 5) t (pn3 (σ 5) t n k S).2.1)) 11 (fun _ => bI ((pn3 (σ 5) t n k S).1 = true))) pre post ((pn3 (σ 5) t n k S).2.2) ((((((su_nn (by decide)).trans (su_nn (by decide))).trans (su_nn (by decide))).trans (su_nn (by decide))).trans (su_nn (by decide))).trans su_at) (σ 5) (((((((su_nn (by decide)).trans (su_nn (by decide))).trans (su_nn (by decide))).trans (su_nn (by decide))).trans (su_nn (by decide))).trans (su_nn (by decide)))) (σ 6) (((((((su_nn (by decide)).trans (su_nn (by decide))).trans (su_nn (by decide))).trans (su_nn (by decide))).trans (su_nn (by decide))).trans (su_nn (by decide)))) (fun _ => nI (tkK (σ 5) t (pn3 (σ 5) t n k S).2.1)) (((((su_nn (by decide)).trans (su_nn (by decide))).trans (su_nn (by decide))).trans (su_nn (by decide))).trans su_at) (fun _ => nI (tkF (σ 5) t (pn3 (σ 5) t n k S).2.1)) ((((su_nn (by decide)).trans (su_nn (by decide))).trans (su_nn (by decide))).trans su_at) (fun _ => nI (tkT (σ 5) t (pn3 (σ 5) t n k S).2.1)) (((su_nn (by decide)).trans (su_nn (by decide))).trans su_at) (fun _ => tkV (σ 5) t (pn3 (σ 5) t n k S).2.1) ((su_nn (by decide)).trans su_at) (fun _ => bI ((pn3 (σ 5) t n k S).1 = true)) (su_at) t (fiB (σ 5) t (pn3 (σ 5) t n k S).2.1 (99 : Int32) (111 : Int32) (105 : Int32) (110 : Int32) (115 : Int32)) (8 + 5 * n + 4) (999 : Int32) (pn3 (σ 5) t n k S) hT ht hp3 rfl rfl rfl rfl rfl rfl (fun q => by have := pn3_lt q; omega)) mv_X6_perhaps ml_RX6_119 rfl ⟨Nat.le_of_ble_eq_true rfl, Nat.le_of_ble_eq_true rfl⟩ ⟨rfl, rfl⟩ (q0 := 0) rfl rfl rfl rfl rfl rfl (Nat.le_of_ble_eq_true rfl) dX6_personHere_153 ?_
      refine r_blk (blk' := wM cs h (su (su (su (su (su (su σ 0 ((phS (σ 5) t (fiB (σ 5) t (pn3 (σ 5) t n k S).2.1 (99 : Int32) (111 : Int32) (105 : Int32) (110 : Int32) (115 : Int32)) (8 + 5 * n + 4) (999 : Int32) (pn3 (σ 5) t n k S)).2.2)) 7 (fun _ => nI (tkK (σ 5) t (phS (σ 5) t (fiB (σ 5) t (pn3 (σ 5) t n k S).2.1 (99 : Int32) (111 : Int32) (105 : Int32) (110 : Int32) (115 : Int32)) (8 + 5 * n + 4) (999 : Int32) (pn3 (σ 5) t n k S)).2.1))) 8 (fun _ => nI (tkF (σ 5) t (phS (σ 5) t (fiB (σ 5) t (pn3 (σ 5) t n k S).2.1 (99 : Int32) (111 : Int32) (105 : Int32) (110 : Int32) (115 : Int32)) (8 + 5 * n + 4) (999 : Int32) (pn3 (σ 5) t n k S)).2.1))) 9 (fun _ => nI (tkT (σ 5) t (phS (σ 5) t (fiB (σ 5) t (pn3 (σ 5) t n k S).2.1 (99 : Int32) (111 : Int32) (105 : Int32) (110 : Int32) (115 : Int32)) (8 + 5 * n + 4) (999 : Int32) (pn3 (σ 5) t n k S)).2.1))) 10 (fun _ => tkV (σ 5) t (phS (σ 5) t (fiB (σ 5) t (pn3 (σ 5) t n k S).2.1 (99 : Int32) (111 : Int32) (105 : Int32) (110 : Int32) (115 : Int32)) (8 + 5 * n + 4) (999 : Int32) (pn3 (σ 5) t n k S)).2.1)) 11 (fun _ => bI ((phS (σ 5) t (fiB (σ 5) t (pn3 (σ 5) t n k S).2.1 (99 : Int32) (111 : Int32) (105 : Int32) (110 : Int32) (115 : Int32)) (8 + 5 * n + 4) (999 : Int32) (pn3 (σ 5) t n k S)).1 = true)))) (congrArg (wM cs h) (by rw [su_cm (k := 11) (j := 0) (by decide), su_cm (k := 10) (j := 0) (by decide), su_cm (k := 9) (j := 0) (by decide), su_cm (k := 8) (j := 0) (by decide), su_cm (k := 7) (j := 0) (by decide), su_su (k := 0), su_cm (k := 11) (j := 7) (by decide), su_cm (k := 10) (j := 7) (by decide), su_cm (k := 9) (j := 7) (by decide), su_cm (k := 8) (j := 7) (by decide), su_su (k := 7), su_cm (k := 11) (j := 8) (by decide), su_cm (k := 10) (j := 8) (by decide), su_cm (k := 9) (j := 8) (by decide), su_su (k := 8), su_cm (k := 11) (j := 9) (by decide), su_cm (k := 10) (j := 9) (by decide), su_su (k := 9), su_cm (k := 11) (j := 10) (by decide), su_su (k := 10), su_su (k := 11)])) ?_
      have f_17 : (phS (σ 5) t (fiB (σ 5) t (pn3 (σ 5) t n k S).2.1 (99 : Int32) (111 : Int32) (105 : Int32) (110 : Int32) (115 : Int32)) (8 + 5 * n + 4) (999 : Int32) (pn3 (σ 5) t n k S)).2.1 ≤ t := phS_le hp3
      refine r_blk (blk' := wM cs h (su (su (su (su (su (su σ 0 ((pnS (σ 5) t n k S).2.2)) 7 (fun _ => nI (tkK (σ 5) t (pnS (σ 5) t n k S).2.1))) 8 (fun _ => nI (tkF (σ 5) t (pnS (σ 5) t n k S).2.1))) 9 (fun _ => nI (tkT (σ 5) t (pnS (σ 5) t n k S).2.1))) 10 (fun _ => tkV (σ 5) t (pnS (σ 5) t n k S).2.1)) 11 (fun _ => bI ((pnS (σ 5) t n k S).1 = true)))) rfl ?_
      exact r_vret (pc := 156) C hr hlk dX6_personHere_156 rfl
    · skip
      have c_13 := bI_0.mp c_13
      have hlt8 := of_decide_eq_true (ndS_1 (Bool.not_eq_true _ ▸ c_13)).1
      refine r_aload_n (pc := 39) C 1 dX6_personHere_39 rfl rfl ?_
      refine mg_s (pc := 40) C fl_RX6_7 dX6_personHere_40 ?_
      refine r_iload_n (pc := 43) C 0 dX6_personHere_43 rfl rfl ?_
      refine r_iload_n (pc := 44) C 2 dX6_personHere_44 rfl rfl ?_
      refine as_s (pc := 45) C (8 + 5 * n) (rfl) (by omega) dX6_personHere_45 ((ndS (σ 5) t (decide (n < 8)) S).2.2) ((((((su_nn (by decide)).trans (su_nn (by decide))).trans (su_nn (by decide))).trans (su_nn (by decide))).trans (su_nn (by decide))).trans su_at) ?_
      refine r_blk (blk' := wM cs h (su (su (su (su (su (su σ 0 (upd ((ndS (σ 5) t (decide (n < 8)) S).2.2) (8 + 5 * n) k)) 7 (fun _ => nI (tkK (σ 5) t (ndS (σ 5) t (decide (n < 8)) S).2.1))) 8 (fun _ => nI (tkF (σ 5) t (ndS (σ 5) t (decide (n < 8)) S).2.1))) 9 (fun _ => nI (tkT (σ 5) t (ndS (σ 5) t (decide (n < 8)) S).2.1))) 10 (fun _ => tkV (σ 5) t (ndS (σ 5) t (decide (n < 8)) S).2.1)) 11 (fun _ => bI ((ndS (σ 5) t (decide (n < 8)) S).1 = true)))) (congrArg (wM cs h) (by rw [su_cm (k := 11) (j := 0) (by decide), su_cm (k := 10) (j := 0) (by decide), su_cm (k := 9) (j := 0) (by decide), su_cm (k := 8) (j := 0) (by decide), su_cm (k := 7) (j := 0) (by decide), su_su])) ?_
      refine r_aload_n (pc := 46) C 1 dX6_personHere_46 rfl rfl ?_
      refine mg_s (pc := 47) C fl_RX6_7 dX6_personHere_47 ?_
      refine r_iload_n (pc := 50) C 0 dX6_personHere_50 rfl rfl ?_
      refine r_iconst (pc := 51) C 4 dX6_personHere_51 (by decide) ?_
      refine r_iadd (pc := 52) C dX6_personHere_52 ?_
      refine r_eqi (y := nI (8 + 5 * n + 4)) (nI_add (8 + 5 * n) 4) ?_
      refine r_bipush (pc := 53) C 50 dX6_personHere_53 (by decide) ?_
      refine as_s (pc := 55) C (8 + 5 * n + 4) (rfl) (by omega) dX6_personHere_55 (upd ((ndS (σ 5) t (decide (n < 8)) S).2.2) (8 + 5 * n) k) ((((((su_nn (by decide)).trans (su_nn (by decide))).trans (su_nn (by decide))).trans (su_nn (by decide))).trans (su_nn (by decide))).trans su_at) ?_
      refine r_blk (blk' := wM cs h (su (su (su (su (su (su σ 0 (upd (upd ((ndS (σ 5) t (decide (n < 8)) S).2.2) (8 + 5 * n) k) (8 + 5 * n + 4) 50)) 7 (fun _ => nI (tkK (σ 5) t (ndS (σ 5) t (decide (n < 8)) S).2.1))) 8 (fun _ => nI (tkF (σ 5) t (ndS (σ 5) t (decide (n < 8)) S).2.1))) 9 (fun _ => nI (tkT (σ 5) t (ndS (σ 5) t (decide (n < 8)) S).2.1))) 10 (fun _ => tkV (σ 5) t (ndS (σ 5) t (decide (n < 8)) S).2.1)) 11 (fun _ => bI ((ndS (σ 5) t (decide (n < 8)) S).1 = true)))) (congrArg (wM cs h) (by rw [su_cm (k := 11) (j := 0) (by decide), su_cm (k := 10) (j := 0) (by decide), su_cm (k := 9) (j := 0) (by decide), su_cm (k := 8) (j := 0) (by decide), su_cm (k := 7) (j := 0) (by decide), su_su])) ?_
      refine r_aload_n (pc := 56) C 1 dX6_personHere_56 rfl rfl ?_
      refine mg_s (pc := 57) C fl_RX6_7 dX6_personHere_57 ?_
      refine r_iconst (pc := 60) C 0 dX6_personHere_60 (by decide) ?_
      refine r_dup2 (pc := 61) C dX6_personHere_61 rfl rfl ?_
      refine al_s (pc := 62) C 0 (rfl) (by omega) dX6_personHere_62 (upd (upd ((ndS (σ 5) t (decide (n < 8)) S).2.2) (8 + 5 * n) k) (8 + 5 * n + 4) 50 0) (congrFun ((((((su_nn (by decide)).trans (su_nn (by decide))).trans (su_nn (by decide))).trans (su_nn (by decide))).trans (su_nn (by decide))).trans su_at) _) ?_
      refine r_eqi (y := nI n) ((upd_0 (by omega) (upd_0 (by omega) hN8))) ?_
      refine r_iconst (pc := 63) C 1 dX6_personHere_63 (by decide) ?_
      refine r_iadd (pc := 64) C dX6_personHere_64 ?_
      refine r_eqi (y := nI (n + 1)) (nI_add n 1) ?_
      refine as_s (pc := 65) C 0 (rfl) (by omega) dX6_personHere_65 (upd (upd ((ndS (σ 5) t (decide (n < 8)) S).2.2) (8 + 5 * n) k) (8 + 5 * n + 4) 50) ((((((su_nn (by decide)).trans (su_nn (by decide))).trans (su_nn (by decide))).trans (su_nn (by decide))).trans (su_nn (by decide))).trans su_at) ?_
      refine r_blk (blk' := wM cs h (su (su (su (su (su (su σ 0 (upd (upd (upd ((ndS (σ 5) t (decide (n < 8)) S).2.2) (8 + 5 * n) k) (8 + 5 * n + 4) 50) 0 (nI (n + 1)))) 7 (fun _ => nI (tkK (σ 5) t (ndS (σ 5) t (decide (n < 8)) S).2.1))) 8 (fun _ => nI (tkF (σ 5) t (ndS (σ 5) t (decide (n < 8)) S).2.1))) 9 (fun _ => nI (tkT (σ 5) t (ndS (σ 5) t (decide (n < 8)) S).2.1))) 10 (fun _ => tkV (σ 5) t (ndS (σ 5) t (decide (n < 8)) S).2.1)) 11 (fun _ => bI ((ndS (σ 5) t (decide (n < 8)) S).1 = true)))) (congrArg (wM cs h) (by rw [su_cm (k := 11) (j := 0) (by decide), su_cm (k := 10) (j := 0) (by decide), su_cm (k := 9) (j := 0) (by decide), su_cm (k := 8) (j := 0) (by decide), su_cm (k := 7) (j := 0) (by decide), su_su])) ?_
      refine r_blk (blk' := wM cs h (su (su (su (su (su (su σ 0 ((pn0 (σ 5) t n k S).2.2)) 7 (fun _ => nI (tkK (σ 5) t (pn0 (σ 5) t n k S).2.1))) 8 (fun _ => nI (tkF (σ 5) t (pn0 (σ 5) t n k S).2.1))) 9 (fun _ => nI (tkT (σ 5) t (pn0 (σ 5) t n k S).2.1))) 10 (fun _ => tkV (σ 5) t (pn0 (σ 5) t n k S).2.1)) 11 (fun _ => bI ((pn0 (σ 5) t n k S).1 = true)))) (by rw [show (pn0 (σ 5) t n k S) = ((ndS (σ 5) t (decide (n < 8)) S).1, (ndS (σ 5) t (decide (n < 8)) S).2.1, upd (upd (upd (ndS (σ 5) t (decide (n < 8)) S).2.2 (8 + 5 * n) k) (8 + 5 * n + 4) 50) 0 (nI (n + 1))) from if_neg ‹_›] <;> rfl) ?_
      have hp0 : (pn0 (σ 5) t n k S).2.1 ≤ t := pn0_le hi
      refine r_aload_n (pc := 66) C 1 dX6_personHere_66 rfl rfl ?_
      refine r_aload_n (pc := 67) C 1 dX6_personHere_67 rfl rfl ?_
      refine r_bipush (pc := 68) C 116 dX6_personHere_68 (by decide) ?_
      refine r_bipush (pc := 70) C 114 dX6_personHere_70 (by decide) ?_
      refine r_bipush (pc := 72) C 117 dX6_personHere_72 (by decide) ?_
      refine r_bipush (pc := 74) C 116 dX6_personHere_74 (by decide) ?_
      refine r_bipush (pc := 76) C 104 dX6_personHere_76 (by decide) ?_
      refine rc_Vi (pc := 78) C (t_X6_isFive' l ad D cs h (su (su (su (su (su (su σ 0 ((pn0 (σ 5) t n k S).2.2)) 7 (fun _ => nI (tkK (σ 5) t (pn0 (σ 5) t n k S).2.1))) 8 (fun _ => nI (tkF (σ 5) t (pn0 (σ 5) t n k S).2.1))) 9 (fun _ => nI (tkT (σ 5) t (pn0 (σ 5) t n k S).2.1))) 10 (fun _ => tkV (σ 5) t (pn0 (σ 5) t n k S).2.1)) 11 (fun _ => bI ((pn0 (σ 5) t n k S).1 = true))) pre post (σ 5) (((((((su_nn (by decide)).trans (su_nn (by decide))).trans (su_nn (by decide))).trans (su_nn (by decide))).trans (su_nn (by decide))).trans (su_nn (by decide)))) (σ 6) (((((((su_nn (by decide)).trans (su_nn (by decide))).trans (su_nn (by decide))).trans (su_nn (by decide))).trans (su_nn (by decide))).trans (su_nn (by decide)))) (fun _ => nI (tkK (σ 5) t (pn0 (σ 5) t n k S).2.1)) (((((su_nn (by decide)).trans (su_nn (by decide))).trans (su_nn (by decide))).trans (su_nn (by decide))).trans su_at) (fun _ => nI (tkF (σ 5) t (pn0 (σ 5) t n k S).2.1)) ((((su_nn (by decide)).trans (su_nn (by decide))).trans (su_nn (by decide))).trans su_at) (fun _ => nI (tkT (σ 5) t (pn0 (σ 5) t n k S).2.1)) (((su_nn (by decide)).trans (su_nn (by decide))).trans su_at) t (pn0 (σ 5) t n k S).2.1 (116 : Int32) (114 : Int32) (117 : Int32) (116 : Int32) (104 : Int32) hT ht hp0 rfl rfl rfl) mv_X6_isFive ml_RX6_101 rfl ⟨Nat.le_of_ble_eq_true rfl, Nat.le_of_ble_eq_true rfl⟩ ⟨rfl, rfl⟩ (q0 := 0) rfl rfl rfl rfl rfl rfl (Nat.le_of_ble_eq_true rfl) dX6_personHere_78 ?_
      refine r_iload_n (pc := 81) C 0 dX6_personHere_81 rfl rfl ?_
      refine r_iconst (pc := 82) C 1 dX6_personHere_82 (by decide) ?_
      refine r_iadd (pc := 83) C dX6_personHere_83 ?_
      refine r_eqi (y := nI (8 + 5 * n + 1)) (nI_add (8 + 5 * n) 1) ?_
      refine r_bipush (pc := 84) C 99 dX6_personHere_84 (by decide) ?_
      refine rc_Vv (pc := 86) C (t_X6_perhaps' l ad D cs h (su (su (su (su (su (su σ 0 ((pn0 (σ 5) t n k S).2.2)) 7 (fun _ => nI (tkK (σ 5) t (pn0 (σ 5) t n k S).2.1))) 8 (fun _ => nI (tkF (σ 5) t (pn0 (σ 5) t n k S).2.1))) 9 (fun _ => nI (tkT (σ 5) t (pn0 (σ 5) t n k S).2.1))) 10 (fun _ => tkV (σ 5) t (pn0 (σ 5) t n k S).2.1)) 11 (fun _ => bI ((pn0 (σ 5) t n k S).1 = true))) pre post ((pn0 (σ 5) t n k S).2.2) ((((((su_nn (by decide)).trans (su_nn (by decide))).trans (su_nn (by decide))).trans (su_nn (by decide))).trans (su_nn (by decide))).trans su_at) (σ 5) (((((((su_nn (by decide)).trans (su_nn (by decide))).trans (su_nn (by decide))).trans (su_nn (by decide))).trans (su_nn (by decide))).trans (su_nn (by decide)))) (σ 6) (((((((su_nn (by decide)).trans (su_nn (by decide))).trans (su_nn (by decide))).trans (su_nn (by decide))).trans (su_nn (by decide))).trans (su_nn (by decide)))) (fun _ => nI (tkK (σ 5) t (pn0 (σ 5) t n k S).2.1)) (((((su_nn (by decide)).trans (su_nn (by decide))).trans (su_nn (by decide))).trans (su_nn (by decide))).trans su_at) (fun _ => nI (tkF (σ 5) t (pn0 (σ 5) t n k S).2.1)) ((((su_nn (by decide)).trans (su_nn (by decide))).trans (su_nn (by decide))).trans su_at) (fun _ => nI (tkT (σ 5) t (pn0 (σ 5) t n k S).2.1)) (((su_nn (by decide)).trans (su_nn (by decide))).trans su_at) (fun _ => tkV (σ 5) t (pn0 (σ 5) t n k S).2.1) ((su_nn (by decide)).trans su_at) (fun _ => bI ((pn0 (σ 5) t n k S).1 = true)) (su_at) t (fiB (σ 5) t (pn0 (σ 5) t n k S).2.1 (116 : Int32) (114 : Int32) (117 : Int32) (116 : Int32) (104 : Int32)) (8 + 5 * n + 1) (99 : Int32) (pn0 (σ 5) t n k S) hT ht hp0 rfl rfl rfl rfl rfl rfl (fun q => by have := pn0_lt q; omega)) mv_X6_perhaps ml_RX6_119 rfl ⟨Nat.le_of_ble_eq_true rfl, Nat.le_of_ble_eq_true rfl⟩ ⟨rfl, rfl⟩ (q0 := 0) rfl rfl rfl rfl rfl rfl (Nat.le_of_ble_eq_true rfl) dX6_personHere_86 ?_
      refine r_blk (blk' := wM cs h (su (su (su (su (su (su σ 0 ((phS (σ 5) t (fiB (σ 5) t (pn0 (σ 5) t n k S).2.1 (116 : Int32) (114 : Int32) (117 : Int32) (116 : Int32) (104 : Int32)) (8 + 5 * n + 1) (99 : Int32) (pn0 (σ 5) t n k S)).2.2)) 7 (fun _ => nI (tkK (σ 5) t (phS (σ 5) t (fiB (σ 5) t (pn0 (σ 5) t n k S).2.1 (116 : Int32) (114 : Int32) (117 : Int32) (116 : Int32) (104 : Int32)) (8 + 5 * n + 1) (99 : Int32) (pn0 (σ 5) t n k S)).2.1))) 8 (fun _ => nI (tkF (σ 5) t (phS (σ 5) t (fiB (σ 5) t (pn0 (σ 5) t n k S).2.1 (116 : Int32) (114 : Int32) (117 : Int32) (116 : Int32) (104 : Int32)) (8 + 5 * n + 1) (99 : Int32) (pn0 (σ 5) t n k S)).2.1))) 9 (fun _ => nI (tkT (σ 5) t (phS (σ 5) t (fiB (σ 5) t (pn0 (σ 5) t n k S).2.1 (116 : Int32) (114 : Int32) (117 : Int32) (116 : Int32) (104 : Int32)) (8 + 5 * n + 1) (99 : Int32) (pn0 (σ 5) t n k S)).2.1))) 10 (fun _ => tkV (σ 5) t (phS (σ 5) t (fiB (σ 5) t (pn0 (σ 5) t n k S).2.1 (116 : Int32) (114 : Int32) (117 : Int32) (116 : Int32) (104 : Int32)) (8 + 5 * n + 1) (99 : Int32) (pn0 (σ 5) t n k S)).2.1)) 11 (fun _ => bI ((phS (σ 5) t (fiB (σ 5) t (pn0 (σ 5) t n k S).2.1 (116 : Int32) (114 : Int32) (117 : Int32) (116 : Int32) (104 : Int32)) (8 + 5 * n + 1) (99 : Int32) (pn0 (σ 5) t n k S)).1 = true)))) (congrArg (wM cs h) (by rw [su_cm (k := 11) (j := 0) (by decide), su_cm (k := 10) (j := 0) (by decide), su_cm (k := 9) (j := 0) (by decide), su_cm (k := 8) (j := 0) (by decide), su_cm (k := 7) (j := 0) (by decide), su_su (k := 0), su_cm (k := 11) (j := 7) (by decide), su_cm (k := 10) (j := 7) (by decide), su_cm (k := 9) (j := 7) (by decide), su_cm (k := 8) (j := 7) (by decide), su_su (k := 7), su_cm (k := 11) (j := 8) (by decide), su_cm (k := 10) (j := 8) (by decide), su_cm (k := 9) (j := 8) (by decide), su_su (k := 8), su_cm (k := 11) (j := 9) (by decide), su_cm (k := 10) (j := 9) (by decide), su_su (k := 9), su_cm (k := 11) (j := 10) (by decide), su_su (k := 10), su_su (k := 11)])) ?_
      have f_18 : (phS (σ 5) t (fiB (σ 5) t (pn0 (σ 5) t n k S).2.1 (116 : Int32) (114 : Int32) (117 : Int32) (116 : Int32) (104 : Int32)) (8 + 5 * n + 1) (99 : Int32) (pn0 (σ 5) t n k S)).2.1 ≤ t := phS_le hp0
      refine r_blk (blk' := wM cs h (su (su (su (su (su (su σ 0 ((pn1 (σ 5) t n k S).2.2)) 7 (fun _ => nI (tkK (σ 5) t (pn1 (σ 5) t n k S).2.1))) 8 (fun _ => nI (tkF (σ 5) t (pn1 (σ 5) t n k S).2.1))) 9 (fun _ => nI (tkT (σ 5) t (pn1 (σ 5) t n k S).2.1))) 10 (fun _ => tkV (σ 5) t (pn1 (σ 5) t n k S).2.1)) 11 (fun _ => bI ((pn1 (σ 5) t n k S).1 = true)))) rfl ?_
      have hp1 : (pn1 (σ 5) t n k S).2.1 ≤ t := pn1_le hi
      refine r_aload_n (pc := 89) C 1 dX6_personHere_89 rfl rfl ?_
      refine r_aload_n (pc := 90) C 1 dX6_personHere_90 rfl rfl ?_
      refine r_bipush (pc := 91) C 119 dX6_personHere_91 (by decide) ?_
      refine r_bipush (pc := 93) C 105 dX6_personHere_93 (by decide) ?_
      refine r_bipush (pc := 95) C 115 dX6_personHere_95 (by decide) ?_
      refine r_bipush (pc := 97) C 104 dX6_personHere_97 (by decide) ?_
      refine rc_Vi (pc := 99) C (t_X6_isFour' l ad D cs h (su (su (su (su (su (su σ 0 ((pn1 (σ 5) t n k S).2.2)) 7 (fun _ => nI (tkK (σ 5) t (pn1 (σ 5) t n k S).2.1))) 8 (fun _ => nI (tkF (σ 5) t (pn1 (σ 5) t n k S).2.1))) 9 (fun _ => nI (tkT (σ 5) t (pn1 (σ 5) t n k S).2.1))) 10 (fun _ => tkV (σ 5) t (pn1 (σ 5) t n k S).2.1)) 11 (fun _ => bI ((pn1 (σ 5) t n k S).1 = true))) pre post (σ 5) (((((((su_nn (by decide)).trans (su_nn (by decide))).trans (su_nn (by decide))).trans (su_nn (by decide))).trans (su_nn (by decide))).trans (su_nn (by decide)))) (σ 6) (((((((su_nn (by decide)).trans (su_nn (by decide))).trans (su_nn (by decide))).trans (su_nn (by decide))).trans (su_nn (by decide))).trans (su_nn (by decide)))) (fun _ => nI (tkK (σ 5) t (pn1 (σ 5) t n k S).2.1)) (((((su_nn (by decide)).trans (su_nn (by decide))).trans (su_nn (by decide))).trans (su_nn (by decide))).trans su_at) (fun _ => nI (tkF (σ 5) t (pn1 (σ 5) t n k S).2.1)) ((((su_nn (by decide)).trans (su_nn (by decide))).trans (su_nn (by decide))).trans su_at) (fun _ => nI (tkT (σ 5) t (pn1 (σ 5) t n k S).2.1)) (((su_nn (by decide)).trans (su_nn (by decide))).trans su_at) t (pn1 (σ 5) t n k S).2.1 (119 : Int32) (105 : Int32) (115 : Int32) (104 : Int32) hT ht hp1 rfl rfl rfl) mv_X6_isFour ml_RX6_104 rfl ⟨Nat.le_of_ble_eq_true rfl, Nat.le_of_ble_eq_true rfl⟩ ⟨rfl, rfl⟩ (q0 := 0) rfl rfl rfl rfl rfl rfl (Nat.le_of_ble_eq_true rfl) dX6_personHere_99 ?_
      refine r_iload_n (pc := 102) C 0 dX6_personHere_102 rfl rfl ?_
      refine r_iconst (pc := 103) C 2 dX6_personHere_103 (by decide) ?_
      refine r_iadd (pc := 104) C dX6_personHere_104 ?_
      refine r_eqi (y := nI (8 + 5 * n + 2)) (nI_add (8 + 5 * n) 2) ?_
      refine r_bipush (pc := 105) C 99 dX6_personHere_105 (by decide) ?_
      refine rc_Vv (pc := 107) C (t_X6_perhaps' l ad D cs h (su (su (su (su (su (su σ 0 ((pn1 (σ 5) t n k S).2.2)) 7 (fun _ => nI (tkK (σ 5) t (pn1 (σ 5) t n k S).2.1))) 8 (fun _ => nI (tkF (σ 5) t (pn1 (σ 5) t n k S).2.1))) 9 (fun _ => nI (tkT (σ 5) t (pn1 (σ 5) t n k S).2.1))) 10 (fun _ => tkV (σ 5) t (pn1 (σ 5) t n k S).2.1)) 11 (fun _ => bI ((pn1 (σ 5) t n k S).1 = true))) pre post ((pn1 (σ 5) t n k S).2.2) ((((((su_nn (by decide)).trans (su_nn (by decide))).trans (su_nn (by decide))).trans (su_nn (by decide))).trans (su_nn (by decide))).trans su_at) (σ 5) (((((((su_nn (by decide)).trans (su_nn (by decide))).trans (su_nn (by decide))).trans (su_nn (by decide))).trans (su_nn (by decide))).trans (su_nn (by decide)))) (σ 6) (((((((su_nn (by decide)).trans (su_nn (by decide))).trans (su_nn (by decide))).trans (su_nn (by decide))).trans (su_nn (by decide))).trans (su_nn (by decide)))) (fun _ => nI (tkK (σ 5) t (pn1 (σ 5) t n k S).2.1)) (((((su_nn (by decide)).trans (su_nn (by decide))).trans (su_nn (by decide))).trans (su_nn (by decide))).trans su_at) (fun _ => nI (tkF (σ 5) t (pn1 (σ 5) t n k S).2.1)) ((((su_nn (by decide)).trans (su_nn (by decide))).trans (su_nn (by decide))).trans su_at) (fun _ => nI (tkT (σ 5) t (pn1 (σ 5) t n k S).2.1)) (((su_nn (by decide)).trans (su_nn (by decide))).trans su_at) (fun _ => tkV (σ 5) t (pn1 (σ 5) t n k S).2.1) ((su_nn (by decide)).trans su_at) (fun _ => bI ((pn1 (σ 5) t n k S).1 = true)) (su_at) t (nmB (σ 5) t (pn1 (σ 5) t n k S).2.1 4 (119 : Int32) (105 : Int32) (115 : Int32) (104 : Int32)) (8 + 5 * n + 2) (99 : Int32) (pn1 (σ 5) t n k S) hT ht hp1 rfl rfl rfl rfl rfl rfl (fun q => by have := pn1_lt q; omega)) mv_X6_perhaps ml_RX6_119 rfl ⟨Nat.le_of_ble_eq_true rfl, Nat.le_of_ble_eq_true rfl⟩ ⟨rfl, rfl⟩ (q0 := 0) rfl rfl rfl rfl rfl rfl (Nat.le_of_ble_eq_true rfl) dX6_personHere_107 ?_
      refine r_blk (blk' := wM cs h (su (su (su (su (su (su σ 0 ((phS (σ 5) t (nmB (σ 5) t (pn1 (σ 5) t n k S).2.1 4 (119 : Int32) (105 : Int32) (115 : Int32) (104 : Int32)) (8 + 5 * n + 2) (99 : Int32) (pn1 (σ 5) t n k S)).2.2)) 7 (fun _ => nI (tkK (σ 5) t (phS (σ 5) t (nmB (σ 5) t (pn1 (σ 5) t n k S).2.1 4 (119 : Int32) (105 : Int32) (115 : Int32) (104 : Int32)) (8 + 5 * n + 2) (99 : Int32) (pn1 (σ 5) t n k S)).2.1))) 8 (fun _ => nI (tkF (σ 5) t (phS (σ 5) t (nmB (σ 5) t (pn1 (σ 5) t n k S).2.1 4 (119 : Int32) (105 : Int32) (115 : Int32) (104 : Int32)) (8 + 5 * n + 2) (99 : Int32) (pn1 (σ 5) t n k S)).2.1))) 9 (fun _ => nI (tkT (σ 5) t (phS (σ 5) t (nmB (σ 5) t (pn1 (σ 5) t n k S).2.1 4 (119 : Int32) (105 : Int32) (115 : Int32) (104 : Int32)) (8 + 5 * n + 2) (99 : Int32) (pn1 (σ 5) t n k S)).2.1))) 10 (fun _ => tkV (σ 5) t (phS (σ 5) t (nmB (σ 5) t (pn1 (σ 5) t n k S).2.1 4 (119 : Int32) (105 : Int32) (115 : Int32) (104 : Int32)) (8 + 5 * n + 2) (99 : Int32) (pn1 (σ 5) t n k S)).2.1)) 11 (fun _ => bI ((phS (σ 5) t (nmB (σ 5) t (pn1 (σ 5) t n k S).2.1 4 (119 : Int32) (105 : Int32) (115 : Int32) (104 : Int32)) (8 + 5 * n + 2) (99 : Int32) (pn1 (σ 5) t n k S)).1 = true)))) (congrArg (wM cs h) (by rw [su_cm (k := 11) (j := 0) (by decide), su_cm (k := 10) (j := 0) (by decide), su_cm (k := 9) (j := 0) (by decide), su_cm (k := 8) (j := 0) (by decide), su_cm (k := 7) (j := 0) (by decide), su_su (k := 0), su_cm (k := 11) (j := 7) (by decide), su_cm (k := 10) (j := 7) (by decide), su_cm (k := 9) (j := 7) (by decide), su_cm (k := 8) (j := 7) (by decide), su_su (k := 7), su_cm (k := 11) (j := 8) (by decide), su_cm (k := 10) (j := 8) (by decide), su_cm (k := 9) (j := 8) (by decide), su_su (k := 8), su_cm (k := 11) (j := 9) (by decide), su_cm (k := 10) (j := 9) (by decide), su_su (k := 9), su_cm (k := 11) (j := 10) (by decide), su_su (k := 10), su_su (k := 11)])) ?_
      have f_19 : (phS (σ 5) t (nmB (σ 5) t (pn1 (σ 5) t n k S).2.1 4 (119 : Int32) (105 : Int32) (115 : Int32) (104 : Int32)) (8 + 5 * n + 2) (99 : Int32) (pn1 (σ 5) t n k S)).2.1 ≤ t := phS_le hp1
      refine r_blk (blk' := wM cs h (su (su (su (su (su (su σ 0 ((pn2 (σ 5) t n k S).2.2)) 7 (fun _ => nI (tkK (σ 5) t (pn2 (σ 5) t n k S).2.1))) 8 (fun _ => nI (tkF (σ 5) t (pn2 (σ 5) t n k S).2.1))) 9 (fun _ => nI (tkT (σ 5) t (pn2 (σ 5) t n k S).2.1))) 10 (fun _ => tkV (σ 5) t (pn2 (σ 5) t n k S).2.1)) 11 (fun _ => bI ((pn2 (σ 5) t n k S).1 = true)))) rfl ?_
      have hp2 : (pn2 (σ 5) t n k S).2.1 ≤ t := pn2_le hi
      refine r_aload_n (pc := 110) C 1 dX6_personHere_110 rfl rfl ?_
      refine r_aload_n (pc := 111) C 1 dX6_personHere_111 rfl rfl ?_
      refine r_iconst (pc := 112) C 3 dX6_personHere_112 (by decide) ?_
      refine r_bipush (pc := 113) C 119 dX6_personHere_113 (by decide) ?_
      refine r_bipush (pc := 115) C 101 dX6_personHere_115 (by decide) ?_
      refine r_bipush (pc := 117) C 98 dX6_personHere_117 (by decide) ?_
      refine r_bipush (pc := 119) C 98 dX6_personHere_119 (by decide) ?_
      refine rc_Vi (pc := 121) C (t_X6_isName' l ad D cs h (su (su (su (su (su (su σ 0 ((pn2 (σ 5) t n k S).2.2)) 7 (fun _ => nI (tkK (σ 5) t (pn2 (σ 5) t n k S).2.1))) 8 (fun _ => nI (tkF (σ 5) t (pn2 (σ 5) t n k S).2.1))) 9 (fun _ => nI (tkT (σ 5) t (pn2 (σ 5) t n k S).2.1))) 10 (fun _ => tkV (σ 5) t (pn2 (σ 5) t n k S).2.1)) 11 (fun _ => bI ((pn2 (σ 5) t n k S).1 = true))) pre post (σ 5) (((((((su_nn (by decide)).trans (su_nn (by decide))).trans (su_nn (by decide))).trans (su_nn (by decide))).trans (su_nn (by decide))).trans (su_nn (by decide)))) (σ 6) (((((((su_nn (by decide)).trans (su_nn (by decide))).trans (su_nn (by decide))).trans (su_nn (by decide))).trans (su_nn (by decide))).trans (su_nn (by decide)))) (fun _ => nI (tkK (σ 5) t (pn2 (σ 5) t n k S).2.1)) (((((su_nn (by decide)).trans (su_nn (by decide))).trans (su_nn (by decide))).trans (su_nn (by decide))).trans su_at) (fun _ => nI (tkF (σ 5) t (pn2 (σ 5) t n k S).2.1)) ((((su_nn (by decide)).trans (su_nn (by decide))).trans (su_nn (by decide))).trans su_at) (fun _ => nI (tkT (σ 5) t (pn2 (σ 5) t n k S).2.1)) (((su_nn (by decide)).trans (su_nn (by decide))).trans su_at) t (pn2 (σ 5) t n k S).2.1 3 (119 : Int32) (101 : Int32) (98 : Int32) (98 : Int32) hT ht hp2 rfl rfl rfl (by omega)) mv_X6_isName ml_RX6_97 rfl ⟨Nat.le_of_ble_eq_true rfl, Nat.le_of_ble_eq_true rfl⟩ ⟨rfl, rfl⟩ (q0 := 0) rfl rfl rfl rfl rfl rfl (Nat.le_of_ble_eq_true rfl) dX6_personHere_121 ?_
      refine r_iload_n (pc := 124) C 0 dX6_personHere_124 rfl rfl ?_
      refine r_iconst (pc := 125) C 3 dX6_personHere_125 (by decide) ?_
      refine r_iadd (pc := 126) C dX6_personHere_126 ?_
      refine r_eqi (y := nI (8 + 5 * n + 3)) (nI_add (8 + 5 * n) 3) ?_
      refine r_bipush (pc := 127) C 99 dX6_personHere_127 (by decide) ?_
      refine rc_Vv (pc := 129) C (t_X6_perhaps' l ad D cs h (su (su (su (su (su (su σ 0 ((pn2 (σ 5) t n k S).2.2)) 7 (fun _ => nI (tkK (σ 5) t (pn2 (σ 5) t n k S).2.1))) 8 (fun _ => nI (tkF (σ 5) t (pn2 (σ 5) t n k S).2.1))) 9 (fun _ => nI (tkT (σ 5) t (pn2 (σ 5) t n k S).2.1))) 10 (fun _ => tkV (σ 5) t (pn2 (σ 5) t n k S).2.1)) 11 (fun _ => bI ((pn2 (σ 5) t n k S).1 = true))) pre post ((pn2 (σ 5) t n k S).2.2) ((((((su_nn (by decide)).trans (su_nn (by decide))).trans (su_nn (by decide))).trans (su_nn (by decide))).trans (su_nn (by decide))).trans su_at) (σ 5) (((((((su_nn (by decide)).trans (su_nn (by decide))).trans (su_nn (by decide))).trans (su_nn (by decide))).trans (su_nn (by decide))).trans (su_nn (by decide)))) (σ 6) (((((((su_nn (by decide)).trans (su_nn (by decide))).trans (su_nn (by decide))).trans (su_nn (by decide))).trans (su_nn (by decide))).trans (su_nn (by decide)))) (fun _ => nI (tkK (σ 5) t (pn2 (σ 5) t n k S).2.1)) (((((su_nn (by decide)).trans (su_nn (by decide))).trans (su_nn (by decide))).trans (su_nn (by decide))).trans su_at) (fun _ => nI (tkF (σ 5) t (pn2 (σ 5) t n k S).2.1)) ((((su_nn (by decide)).trans (su_nn (by decide))).trans (su_nn (by decide))).trans su_at) (fun _ => nI (tkT (σ 5) t (pn2 (σ 5) t n k S).2.1)) (((su_nn (by decide)).trans (su_nn (by decide))).trans su_at) (fun _ => tkV (σ 5) t (pn2 (σ 5) t n k S).2.1) ((su_nn (by decide)).trans su_at) (fun _ => bI ((pn2 (σ 5) t n k S).1 = true)) (su_at) t (nmB (σ 5) t (pn2 (σ 5) t n k S).2.1 3 (119 : Int32) (101 : Int32) (98 : Int32) (98 : Int32)) (8 + 5 * n + 3) (99 : Int32) (pn2 (σ 5) t n k S) hT ht hp2 rfl rfl rfl rfl rfl rfl (fun q => by have := pn2_lt q; omega)) mv_X6_perhaps ml_RX6_119 rfl ⟨Nat.le_of_ble_eq_true rfl, Nat.le_of_ble_eq_true rfl⟩ ⟨rfl, rfl⟩ (q0 := 0) rfl rfl rfl rfl rfl rfl (Nat.le_of_ble_eq_true rfl) dX6_personHere_129 ?_
      refine r_blk (blk' := wM cs h (su (su (su (su (su (su σ 0 ((phS (σ 5) t (nmB (σ 5) t (pn2 (σ 5) t n k S).2.1 3 (119 : Int32) (101 : Int32) (98 : Int32) (98 : Int32)) (8 + 5 * n + 3) (99 : Int32) (pn2 (σ 5) t n k S)).2.2)) 7 (fun _ => nI (tkK (σ 5) t (phS (σ 5) t (nmB (σ 5) t (pn2 (σ 5) t n k S).2.1 3 (119 : Int32) (101 : Int32) (98 : Int32) (98 : Int32)) (8 + 5 * n + 3) (99 : Int32) (pn2 (σ 5) t n k S)).2.1))) 8 (fun _ => nI (tkF (σ 5) t (phS (σ 5) t (nmB (σ 5) t (pn2 (σ 5) t n k S).2.1 3 (119 : Int32) (101 : Int32) (98 : Int32) (98 : Int32)) (8 + 5 * n + 3) (99 : Int32) (pn2 (σ 5) t n k S)).2.1))) 9 (fun _ => nI (tkT (σ 5) t (phS (σ 5) t (nmB (σ 5) t (pn2 (σ 5) t n k S).2.1 3 (119 : Int32) (101 : Int32) (98 : Int32) (98 : Int32)) (8 + 5 * n + 3) (99 : Int32) (pn2 (σ 5) t n k S)).2.1))) 10 (fun _ => tkV (σ 5) t (phS (σ 5) t (nmB (σ 5) t (pn2 (σ 5) t n k S).2.1 3 (119 : Int32) (101 : Int32) (98 : Int32) (98 : Int32)) (8 + 5 * n + 3) (99 : Int32) (pn2 (σ 5) t n k S)).2.1)) 11 (fun _ => bI ((phS (σ 5) t (nmB (σ 5) t (pn2 (σ 5) t n k S).2.1 3 (119 : Int32) (101 : Int32) (98 : Int32) (98 : Int32)) (8 + 5 * n + 3) (99 : Int32) (pn2 (σ 5) t n k S)).1 = true)))) (congrArg (wM cs h) (by rw [su_cm (k := 11) (j := 0) (by decide), su_cm (k := 10) (j := 0) (by decide), su_cm (k := 9) (j := 0) (by decide), su_cm (k := 8) (j := 0) (by decide), su_cm (k := 7) (j := 0) (by decide), su_su (k := 0), su_cm (k := 11) (j := 7) (by decide), su_cm (k := 10) (j := 7) (by decide), su_cm (k := 9) (j := 7) (by decide), su_cm (k := 8) (j := 7) (by decide), su_su (k := 7), su_cm (k := 11) (j := 8) (by decide), su_cm (k := 10) (j := 8) (by decide), su_cm (k := 9) (j := 8) (by decide), su_su (k := 8), su_cm (k := 11) (j := 9) (by decide), su_cm (k := 10) (j := 9) (by decide), su_su (k := 9), su_cm (k := 11) (j := 10) (by decide), su_su (k := 10), su_su (k := 11)])) ?_
      have f_20 : (phS (σ 5) t (nmB (σ 5) t (pn2 (σ 5) t n k S).2.1 3 (119 : Int32) (101 : Int32) (98 : Int32) (98 : Int32)) (8 + 5 * n + 3) (99 : Int32) (pn2 (σ 5) t n k S)).2.1 ≤ t := phS_le hp2
      refine r_blk (blk' := wM cs h (su (su (su (su (su (su σ 0 ((pn3 (σ 5) t n k S).2.2)) 7 (fun _ => nI (tkK (σ 5) t (pn3 (σ 5) t n k S).2.1))) 8 (fun _ => nI (tkF (σ 5) t (pn3 (σ 5) t n k S).2.1))) 9 (fun _ => nI (tkT (σ 5) t (pn3 (σ 5) t n k S).2.1))) 10 (fun _ => tkV (σ 5) t (pn3 (σ 5) t n k S).2.1)) 11 (fun _ => bI ((pn3 (σ 5) t n k S).1 = true)))) rfl ?_
      have hp3 : (pn3 (σ 5) t n k S).2.1 ≤ t := pn3_le hi
      refine r_aload_n (pc := 132) C 1 dX6_personHere_132 rfl rfl ?_
      refine r_aload_n (pc := 133) C 1 dX6_personHere_133 rfl rfl ?_
      refine r_bipush (pc := 134) C 99 dX6_personHere_134 (by decide) ?_
      refine r_bipush (pc := 136) C 111 dX6_personHere_136 (by decide) ?_
      refine r_bipush (pc := 138) C 105 dX6_personHere_138 (by decide) ?_
      refine r_bipush (pc := 140) C 110 dX6_personHere_140 (by decide) ?_
      refine r_bipush (pc := 142) C 115 dX6_personHere_142 (by decide) ?_
      refine rc_Vi (pc := 144) C (t_X6_isFive' l ad D cs h (su (su (su (su (su (su σ 0 ((pn3 (σ 5) t n k S).2.2)) 7 (fun _ => nI (tkK (σ 5) t (pn3 (σ 5) t n k S).2.1))) 8 (fun _ => nI (tkF (σ 5) t (pn3 (σ 5) t n k S).2.1))) 9 (fun _ => nI (tkT (σ 5) t (pn3 (σ 5) t n k S).2.1))) 10 (fun _ => tkV (σ 5) t (pn3 (σ 5) t n k S).2.1)) 11 (fun _ => bI ((pn3 (σ 5) t n k S).1 = true))) pre post (σ 5) (((((((su_nn (by decide)).trans (su_nn (by decide))).trans (su_nn (by decide))).trans (su_nn (by decide))).trans (su_nn (by decide))).trans (su_nn (by decide)))) (σ 6) (((((((su_nn (by decide)).trans (su_nn (by decide))).trans (su_nn (by decide))).trans (su_nn (by decide))).trans (su_nn (by decide))).trans (su_nn (by decide)))) (fun _ => nI (tkK (σ 5) t (pn3 (σ 5) t n k S).2.1)) (((((su_nn (by decide)).trans (su_nn (by decide))).trans (su_nn (by decide))).trans (su_nn (by decide))).trans su_at) (fun _ => nI (tkF (σ 5) t (pn3 (σ 5) t n k S).2.1)) ((((su_nn (by decide)).trans (su_nn (by decide))).trans (su_nn (by decide))).trans su_at) (fun _ => nI (tkT (σ 5) t (pn3 (σ 5) t n k S).2.1)) (((su_nn (by decide)).trans (su_nn (by decide))).trans su_at) t (pn3 (σ 5) t n k S).2.1 (99 : Int32) (111 : Int32) (105 : Int32) (110 : Int32) (115 : Int32) hT ht hp3 rfl rfl rfl) mv_X6_isFive ml_RX6_101 rfl ⟨Nat.le_of_ble_eq_true rfl, Nat.le_of_ble_eq_true rfl⟩ ⟨rfl, rfl⟩ (q0 := 0) rfl rfl rfl rfl rfl rfl (Nat.le_of_ble_eq_true rfl) dX6_personHere_144 ?_
      refine r_iload_n (pc := 147) C 0 dX6_personHere_147 rfl rfl ?_
      refine r_iconst (pc := 148) C 4 dX6_personHere_148 (by decide) ?_
      refine r_iadd (pc := 149) C dX6_personHere_149 ?_
      refine r_eqi (y := nI (8 + 5 * n + 4)) (nI_add (8 + 5 * n) 4) ?_
      refine r_sipush (pc := 150) C 999 dX6_personHere_150 (by decide) ?_
      refine rc_Vv (pc := 153) C (t_X6_perhaps' l ad D cs h (su (su (su (su (su (su σ 0 ((pn3 (σ 5) t n k S).2.2)) 7 (fun _ => nI (tkK (σ 5) t (pn3 (σ 5) t n k S).2.1))) 8 (fun _ => nI (tkF (σ 5) t (pn3 (σ 5) t n k S).2.1))) 9 (fun _ => nI (tkT (σ 5) t (pn3 (σ 5) t n k S).2.1))) 10 (fun _ => tkV (σ 5) t (pn3 (σ 5) t n k S).2.1)) 11 (fun _ => bI ((pn3 (σ 5) t n k S).1 = true))) pre post ((pn3 (σ 5) t n k S).2.2) ((((((su_nn (by decide)).trans (su_nn (by decide))).trans (su_nn (by decide))).trans (su_nn (by decide))).trans (su_nn (by decide))).trans su_at) (σ 5) (((((((su_nn (by decide)).trans (su_nn (by decide))).trans (su_nn (by decide))).trans (su_nn (by decide))).trans (su_nn (by decide))).trans (su_nn (by decide)))) (σ 6) (((((((su_nn (by decide)).trans (su_nn (by decide))).trans (su_nn (by decide))).trans (su_nn (by decide))).trans (su_nn (by decide))).trans (su_nn (by decide)))) (fun _ => nI (tkK (σ 5) t (pn3 (σ 5) t n k S).2.1)) (((((su_nn (by decide)).trans (su_nn (by decide))).trans (su_nn (by decide))).trans (su_nn (by decide))).trans su_at) (fun _ => nI (tkF (σ 5) t (pn3 (σ 5) t n k S).2.1)) ((((su_nn (by decide)).trans (su_nn (by decide))).trans (su_nn (by decide))).trans su_at) (fun _ => nI (tkT (σ 5) t (pn3 (σ 5) t n k S).2.1)) (((su_nn (by decide)).trans (su_nn (by decide))).trans su_at) (fun _ => tkV (σ 5) t (pn3 (σ 5) t n k S).2.1) ((su_nn (by decide)).trans su_at) (fun _ => bI ((pn3 (σ 5) t n k S).1 = true)) (su_at) t (fiB (σ 5) t (pn3 (σ 5) t n k S).2.1 (99 : Int32) (111 : Int32) (105 : Int32) (110 : Int32) (115 : Int32)) (8 + 5 * n + 4) (999 : Int32) (pn3 (σ 5) t n k S) hT ht hp3 rfl rfl rfl rfl rfl rfl (fun q => by have := pn3_lt q; omega)) mv_X6_perhaps ml_RX6_119 rfl ⟨Nat.le_of_ble_eq_true rfl, Nat.le_of_ble_eq_true rfl⟩ ⟨rfl, rfl⟩ (q0 := 0) rfl rfl rfl rfl rfl rfl (Nat.le_of_ble_eq_true rfl) dX6_personHere_153 ?_
      refine r_blk (blk' := wM cs h (su (su (su (su (su (su σ 0 ((phS (σ 5) t (fiB (σ 5) t (pn3 (σ 5) t n k S).2.1 (99 : Int32) (111 : Int32) (105 : Int32) (110 : Int32) (115 : Int32)) (8 + 5 * n + 4) (999 : Int32) (pn3 (σ 5) t n k S)).2.2)) 7 (fun _ => nI (tkK (σ 5) t (phS (σ 5) t (fiB (σ 5) t (pn3 (σ 5) t n k S).2.1 (99 : Int32) (111 : Int32) (105 : Int32) (110 : Int32) (115 : Int32)) (8 + 5 * n + 4) (999 : Int32) (pn3 (σ 5) t n k S)).2.1))) 8 (fun _ => nI (tkF (σ 5) t (phS (σ 5) t (fiB (σ 5) t (pn3 (σ 5) t n k S).2.1 (99 : Int32) (111 : Int32) (105 : Int32) (110 : Int32) (115 : Int32)) (8 + 5 * n + 4) (999 : Int32) (pn3 (σ 5) t n k S)).2.1))) 9 (fun _ => nI (tkT (σ 5) t (phS (σ 5) t (fiB (σ 5) t (pn3 (σ 5) t n k S).2.1 (99 : Int32) (111 : Int32) (105 : Int32) (110 : Int32) (115 : Int32)) (8 + 5 * n + 4) (999 : Int32) (pn3 (σ 5) t n k S)).2.1))) 10 (fun _ => tkV (σ 5) t (phS (σ 5) t (fiB (σ 5) t (pn3 (σ 5) t n k S).2.1 (99 : Int32) (111 : Int32) (105 : Int32) (110 : Int32) (115 : Int32)) (8 + 5 * n + 4) (999 : Int32) (pn3 (σ 5) t n k S)).2.1)) 11 (fun _ => bI ((phS (σ 5) t (fiB (σ 5) t (pn3 (σ 5) t n k S).2.1 (99 : Int32) (111 : Int32) (105 : Int32) (110 : Int32) (115 : Int32)) (8 + 5 * n + 4) (999 : Int32) (pn3 (σ 5) t n k S)).1 = true)))) (congrArg (wM cs h) (by rw [su_cm (k := 11) (j := 0) (by decide), su_cm (k := 10) (j := 0) (by decide), su_cm (k := 9) (j := 0) (by decide), su_cm (k := 8) (j := 0) (by decide), su_cm (k := 7) (j := 0) (by decide), su_su (k := 0), su_cm (k := 11) (j := 7) (by decide), su_cm (k := 10) (j := 7) (by decide), su_cm (k := 9) (j := 7) (by decide), su_cm (k := 8) (j := 7) (by decide), su_su (k := 7), su_cm (k := 11) (j := 8) (by decide), su_cm (k := 10) (j := 8) (by decide), su_cm (k := 9) (j := 8) (by decide), su_su (k := 8), su_cm (k := 11) (j := 9) (by decide), su_cm (k := 10) (j := 9) (by decide), su_su (k := 9), su_cm (k := 11) (j := 10) (by decide), su_su (k := 10), su_su (k := 11)])) ?_
      have f_21 : (phS (σ 5) t (fiB (σ 5) t (pn3 (σ 5) t n k S).2.1 (99 : Int32) (111 : Int32) (105 : Int32) (110 : Int32) (115 : Int32)) (8 + 5 * n + 4) (999 : Int32) (pn3 (σ 5) t n k S)).2.1 ≤ t := phS_le hp3
      refine r_blk (blk' := wM cs h (su (su (su (su (su (su σ 0 ((pnS (σ 5) t n k S).2.2)) 7 (fun _ => nI (tkK (σ 5) t (pnS (σ 5) t n k S).2.1))) 8 (fun _ => nI (tkF (σ 5) t (pnS (σ 5) t n k S).2.1))) 9 (fun _ => nI (tkT (σ 5) t (pnS (σ 5) t n k S).2.1))) 10 (fun _ => tkV (σ 5) t (pnS (σ 5) t n k S).2.1)) 11 (fun _ => bI ((pnS (σ 5) t n k S).1 = true)))) rfl ?_
      exact r_vret (pc := 156) C hr hlk dX6_personHere_156 rfl
theorem t_X6_personHere' (l : Launch) (ad : Nat → Nat) (D : va_G) (cs : Nat → ClassId) (h : Nat → Nat) (σ : Nat → Nat → Int32) (pre post : va_W) (f0_ : Nat → Int32) (e0_ : σ 0 = f0_) (f5_ : Nat → Int32) (e5_ : σ 5 = f5_) (f6_ : Nat → Int32) (e6_ : σ 6 = f6_) (f7_ : Nat → Int32) (e7_ : σ 7 = f7_) (f8_ : Nat → Int32) (e8_ : σ 8 = f8_) (f9_ : Nat → Int32) (e9_ : σ 9 = f9_) (f10_ : Nat → Int32) (e10_ : σ 10 = f10_) (f11_ : Nat → Int32) (e11_ : σ 11 = f11_) (t : Nat) (n : Nat) (k : Int32) (S : PS) (hT : f6_ 0 = nI t) (ht : t ≤ 200) (hi : S.2.1 ≤ t) (h0 : f0_ = S.2.2) (h7 : f7_ 0 = nI (tkK (f5_) t S.2.1)) (h8 : f8_ 0 = nI (tkF (f5_) t S.2.1)) (h9 : f9_ 0 = nI (tkT (f5_) t S.2.1)) (h10 : f10_ 0 = tkV (f5_) t S.2.1) (h11 : f11_ 0 = bI (S.1 = true)) (hN : S.2.2 0 = nI n) (hn : n ≤ 8) : CTv l yX6_personHere cX6_personHere 3 ({ frames := 5, cells := 0, slots := 0, locals := 109 }) ad D (tysW cs) (pre ++ (wM cs h σ ++ post)) [.ref (h 0), .int k] (pre ++ (wM cs h (su (su (su (su (su (su σ 0 ((pnS (f5_) t n k S).2.2)) 7 (fun _ => nI (tkK (f5_) t (pnS (f5_) t n k S).2.1))) 8 (fun _ => nI (tkF (f5_) t (pnS (f5_) t n k S).2.1))) 9 (fun _ => nI (tkT (f5_) t (pnS (f5_) t n k S).2.1))) 10 (fun _ => tkV (f5_) t (pnS (f5_) t n k S).2.1)) 11 (fun _ => bI ((pnS (f5_) t n k S).1 = true))) ++ post)) := by
  subst e0_; subst e5_; subst e6_; subst e7_; subst e8_; subst e9_; subst e10_; subst e11_
  exact t_X6_personHere l ad D cs h σ pre post t n k S hT ht hi h0 h7 h8 h9 h10 h11 hN hn
theorem dX6_itemHere_0 : decode cX6_itemHere 0 = .ok (.aload_n 0, 1) := by decide +kernel
theorem dX6_itemHere_1 : decode cX6_itemHere 1 = .ok (.invokevirtual 123, 3) := by decide +kernel
theorem dX6_itemHere_4 : decode cX6_itemHere 4 = .ok (.istore_n 1, 1) := by decide +kernel
theorem dX6_itemHere_5 : decode cX6_itemHere 5 = .ok (.aload_n 0, 1) := by decide +kernel
theorem dX6_itemHere_6 : decode cX6_itemHere 6 = .ok (.invokevirtual 127, 3) := by decide +kernel
theorem dX6_itemHere_9 : decode cX6_itemHere 9 = .ok (.istore_n 2, 1) := by decide +kernel
theorem dX6_itemHere_10 : decode cX6_itemHere 10 = .ok (.iload_n 1, 1) := by decide +kernel
theorem dX6_itemHere_11 : decode cX6_itemHere 11 = .ok (.ifCond .lt 11, 3) := by decide +kernel
theorem dX6_itemHere_14 : decode cX6_itemHere 14 = .ok (.aload_n 0, 1) := by decide +kernel
theorem dX6_itemHere_15 : decode cX6_itemHere 15 = .ok (.iload_n 1, 1) := by decide +kernel
theorem dX6_itemHere_16 : decode cX6_itemHere 16 = .ok (.invokevirtual 130, 3) := by decide +kernel
theorem dX6_itemHere_19 : decode cX6_itemHere 19 = .ok (.goto 37, 3) := by decide +kernel
theorem dX6_itemHere_22 : decode cX6_itemHere 22 = .ok (.iload_n 2, 1) := by decide +kernel
theorem dX6_itemHere_23 : decode cX6_itemHere 23 = .ok (.ifCond .lt 28, 3) := by decide +kernel
theorem dX6_itemHere_26 : decode cX6_itemHere 26 = .ok (.aload_n 0, 1) := by decide +kernel
theorem dX6_itemHere_27 : decode cX6_itemHere 27 = .ok (.invokevirtual 94, 3) := by decide +kernel
theorem dX6_itemHere_30 : decode cX6_itemHere 30 = .ok (.aload_n 0, 1) := by decide +kernel
theorem dX6_itemHere_31 : decode cX6_itemHere 31 = .ok (.iload_n 2, 1) := by decide +kernel
theorem dX6_itemHere_32 : decode cX6_itemHere 32 = .ok (.iload_n 2, 1) := by decide +kernel
theorem dX6_itemHere_33 : decode cX6_itemHere 33 = .ok (.bipush 7, 2) := by decide +kernel
theorem dX6_itemHere_35 : decode cX6_itemHere 35 = .ok (.if_icmp .ne 8, 3) := by decide +kernel
theorem dX6_itemHere_38 : decode cX6_itemHere 38 = .ok (.bipush 99, 2) := by decide +kernel
theorem dX6_itemHere_40 : decode cX6_itemHere 40 = .ok (.goto 5, 3) := by decide +kernel
theorem dX6_itemHere_43 : decode cX6_itemHere 43 = .ok (.bipush 9, 2) := by decide +kernel
theorem dX6_itemHere_45 : decode cX6_itemHere 45 = .ok (.invokevirtual 115, 3) := by decide +kernel
theorem dX6_itemHere_48 : decode cX6_itemHere 48 = .ok (.goto 8, 3) := by decide +kernel
theorem dX6_itemHere_51 : decode cX6_itemHere 51 = .ok (.aload_n 0, 1) := by decide +kernel
theorem dX6_itemHere_52 : decode cX6_itemHere 52 = .ok (.iconst 0, 1) := by decide +kernel
theorem dX6_itemHere_53 : decode cX6_itemHere 53 = .ok (.invokevirtual 111, 3) := by decide +kernel
theorem dX6_itemHere_56 : decode cX6_itemHere 56 = .ok (.aload_n 0, 1) := by decide +kernel
theorem dX6_itemHere_57 : decode cX6_itemHere 57 = .ok (.aload_n 0, 1) := by decide +kernel
theorem dX6_itemHere_58 : decode cX6_itemHere 58 = .ok (.getfield 84, 3) := by decide +kernel
theorem dX6_itemHere_61 : decode cX6_itemHere 61 = .ok (.iconst 3, 1) := by decide +kernel
theorem dX6_itemHere_62 : decode cX6_itemHere 62 = .ok (.if_icmp .ne 20, 3) := by decide +kernel
theorem dX6_itemHere_65 : decode cX6_itemHere 65 = .ok (.aload_n 0, 1) := by decide +kernel
theorem dX6_itemHere_66 : decode cX6_itemHere 66 = .ok (.aload_n 0, 1) := by decide +kernel
theorem dX6_itemHere_67 : decode cX6_itemHere 67 = .ok (.getfield 70, 3) := by decide +kernel
theorem dX6_itemHere_70 : decode cX6_itemHere 70 = .ok (.invokevirtual 73, 3) := by decide +kernel
theorem dX6_itemHere_73 : decode cX6_itemHere 73 = .ok (.bipush 59, 2) := by decide +kernel
theorem dX6_itemHere_75 : decode cX6_itemHere 75 = .ok (.if_icmp .ne 7, 3) := by decide +kernel
theorem dX6_itemHere_78 : decode cX6_itemHere 78 = .ok (.iconst 1, 1) := by decide +kernel
theorem dX6_itemHere_79 : decode cX6_itemHere 79 = .ok (.goto 4, 3) := by decide +kernel
theorem dX6_itemHere_82 : decode cX6_itemHere 82 = .ok (.iconst 0, 1) := by decide +kernel
theorem dX6_itemHere_83 : decode cX6_itemHere 83 = .ok (.invokevirtual 111, 3) := by decide +kernel
theorem dX6_itemHere_86 : decode cX6_itemHere 86 = .ok (.return_, 1) := by decide +kernel
set_option maxHeartbeats 400000 in
set_option maxRecDepth 20000 in
theorem t_X6_itemHere (l : Launch) (ad : Nat → Nat) (D : va_G) (cs : Nat → ClassId) (h : Nat → Nat) (σ : Nat → Nat → Int32) (pre post : va_W) (t : Nat) (n : Nat) (S : PS) (hT : σ 6 0 = nI t) (ht : t ≤ 200) (hi : S.2.1 ≤ t) (h0 : σ 0 = S.2.2) (h7 : σ 7 0 = nI (tkK (σ 5) t S.2.1)) (h8 : σ 8 0 = nI (tkF (σ 5) t S.2.1)) (h9 : σ 9 0 = nI (tkT (σ 5) t S.2.1)) (h10 : σ 10 0 = tkV (σ 5) t S.2.1) (h11 : σ 11 0 = bI (S.1 = true)) (hN : S.2.2 0 = nI n) (hn : n ≤ 8) : CTv l yX6_itemHere cX6_itemHere 3 ({ frames := 6, cells := 0, slots := 0, locals := 131 }) ad D (tysW cs) (pre ++ (wM cs h σ ++ post)) [.ref (h 0)] (pre ++ (wM cs h (su (su (su (su (su (su σ 0 ((itS (σ 5) t n S).2.2)) 7 (fun _ => nI (tkK (σ 5) t (itS (σ 5) t n S).2.1))) 8 (fun _ => nI (tkF (σ 5) t (itS (σ 5) t n S).2.1))) 9 (fun _ => nI (tkT (σ 5) t (itS (σ 5) t n S).2.1))) 10 (fun _ => tkV (σ 5) t (itS (σ 5) t n S).2.1)) 11 (fun _ => bI ((itS (σ 5) t n S).1 = true))) ++ post)) := by
  refine CTv.of (lv0 := [(0, .ref (h 0))]) (by decide) rfl (Nat.le_of_ble_eq_true rfl) (fun p e s m args below meth c A C hr hlk => ?_)
  have C : Cx p s m args c cX6_itemHere 3 RX6 ad D (tysW cs) A := C
  have hk_ := tkK_le (σ 5) t S.2.1
  have hf_ := tkF_le (T := σ 5) hi
  have ht_ := tkT_le (T := σ 5) hi
  refine r_blk (blk' := wM cs h (su (su (su (su (su (su σ 0 S.2.2) 7 (fun _ => nI (tkK (σ 5) t S.2.1))) 8 (fun _ => nI (tkF (σ 5) t S.2.1))) 9 (fun _ => nI (tkT (σ 5) t S.2.1))) 10 (fun _ => tkV (σ 5) t S.2.1)) 11 (fun _ => bI (S.1 = true)))) (by rw [← h0, ← h7, ← h8, ← h9, ← h10, ← h11] <;> rfl) ?_
  refine r_aload_n (pc := 0) C 0 dX6_itemHere_0 rfl rfl ?_
  refine rc_Vi (pc := 1) C (t_X6_kindHere' l ad D cs h (su (su (su (su (su (su σ 0 S.2.2) 7 (fun _ => nI (tkK (σ 5) t S.2.1))) 8 (fun _ => nI (tkF (σ 5) t S.2.1))) 9 (fun _ => nI (tkT (σ 5) t S.2.1))) 10 (fun _ => tkV (σ 5) t S.2.1)) 11 (fun _ => bI (S.1 = true))) pre post (σ 5) (((((((su_nn (by decide)).trans (su_nn (by decide))).trans (su_nn (by decide))).trans (su_nn (by decide))).trans (su_nn (by decide))).trans (su_nn (by decide)))) (σ 6) (((((((su_nn (by decide)).trans (su_nn (by decide))).trans (su_nn (by decide))).trans (su_nn (by decide))).trans (su_nn (by decide))).trans (su_nn (by decide)))) (fun _ => nI (tkK (σ 5) t S.2.1)) (((((su_nn (by decide)).trans (su_nn (by decide))).trans (su_nn (by decide))).trans (su_nn (by decide))).trans su_at) (fun _ => nI (tkF (σ 5) t S.2.1)) ((((su_nn (by decide)).trans (su_nn (by decide))).trans (su_nn (by decide))).trans su_at) (fun _ => nI (tkT (σ 5) t S.2.1)) (((su_nn (by decide)).trans (su_nn (by decide))).trans su_at) t S.2.1 hT ht hi rfl rfl rfl) mv_X6_kindHere ml_RX6_123 rfl ⟨Nat.le_of_ble_eq_true rfl, Nat.le_of_ble_eq_true rfl⟩ ⟨rfl, rfl⟩ (q0 := 0) rfl rfl rfl rfl rfl rfl (Nat.le_of_ble_eq_true rfl) dX6_itemHere_1 ?_
  refine r_istore_n (pc := 4) C [(1, .int (kiF (σ 5) t S.2.1)), (0, .ref (h 0))] dX6_itemHere_4 rfl (by decide) rfl ?_
  refine r_aload_n (pc := 5) C 1 dX6_itemHere_5 rfl rfl ?_
  refine rc_Vi (pc := 6) C (t_X6_lawHere' l ad D cs h (su (su (su (su (su (su σ 0 S.2.2) 7 (fun _ => nI (tkK (σ 5) t S.2.1))) 8 (fun _ => nI (tkF (σ 5) t S.2.1))) 9 (fun _ => nI (tkT (σ 5) t S.2.1))) 10 (fun _ => tkV (σ 5) t S.2.1)) 11 (fun _ => bI (S.1 = true))) pre post (σ 5) (((((((su_nn (by decide)).trans (su_nn (by decide))).trans (su_nn (by decide))).trans (su_nn (by decide))).trans (su_nn (by decide))).trans (su_nn (by decide)))) (σ 6) (((((((su_nn (by decide)).trans (su_nn (by decide))).trans (su_nn (by decide))).trans (su_nn (by decide))).trans (su_nn (by decide))).trans (su_nn (by decide)))) (fun _ => nI (tkK (σ 5) t S.2.1)) (((((su_nn (by decide)).trans (su_nn (by decide))).trans (su_nn (by decide))).trans (su_nn (by decide))).trans su_at) (fun _ => nI (tkF (σ 5) t S.2.1)) ((((su_nn (by decide)).trans (su_nn (by decide))).trans (su_nn (by decide))).trans su_at) (fun _ => nI (tkT (σ 5) t S.2.1)) (((su_nn (by decide)).trans (su_nn (by decide))).trans su_at) t S.2.1 hT ht hi rfl rfl rfl) mv_X6_lawHere ml_RX6_127 rfl ⟨Nat.le_of_ble_eq_true rfl, Nat.le_of_ble_eq_true rfl⟩ ⟨rfl, rfl⟩ (q0 := 0) rfl rfl rfl rfl rfl rfl (Nat.le_of_ble_eq_true rfl) dX6_itemHere_6 ?_
  refine r_istore_n (pc := 9) C [(2, .int (laF (σ 5) t S.2.1)), (1, .int (kiF (σ 5) t S.2.1)), (0, .ref (h 0))] dX6_itemHere_9 rfl (by decide) rfl ?_
  refine r_iload_n (pc := 10) C 1 dX6_itemHere_10 rfl rfl ?_
  refine r_if_lt (pc := 11) C 22 dX6_itemHere_11 (by decide) (fun c_1 => ?_) (fun c_1 => ?_)
  · skip
    refine r_iload_n (pc := 22) C 0 dX6_itemHere_22 rfl rfl ?_
    refine r_if_lt (pc := 23) C 51 dX6_itemHere_23 (by decide) (fun c_2 => ?_) (fun c_2 => ?_)
    · skip
      refine r_aload_n (pc := 51) C 2 dX6_itemHere_51 rfl rfl ?_
      refine r_iconst (pc := 52) C 0 dX6_itemHere_52 (by decide) ?_
      refine rc_Vv (pc := 53) C (t_X6_needs' l ad D cs h (su (su (su (su (su (su σ 0 S.2.2) 7 (fun _ => nI (tkK (σ 5) t S.2.1))) 8 (fun _ => nI (tkF (σ 5) t S.2.1))) 9 (fun _ => nI (tkT (σ 5) t S.2.1))) 10 (fun _ => tkV (σ 5) t S.2.1)) 11 (fun _ => bI (S.1 = true))) pre post S.2.2 ((((((su_nn (by decide)).trans (su_nn (by decide))).trans (su_nn (by decide))).trans (su_nn (by decide))).trans (su_nn (by decide))).trans su_at) (σ 5) (((((((su_nn (by decide)).trans (su_nn (by decide))).trans (su_nn (by decide))).trans (su_nn (by decide))).trans (su_nn (by decide))).trans (su_nn (by decide)))) (σ 6) (((((((su_nn (by decide)).trans (su_nn (by decide))).trans (su_nn (by decide))).trans (su_nn (by decide))).trans (su_nn (by decide))).trans (su_nn (by decide)))) (fun _ => nI (tkK (σ 5) t S.2.1)) (((((su_nn (by decide)).trans (su_nn (by decide))).trans (su_nn (by decide))).trans (su_nn (by decide))).trans su_at) (fun _ => nI (tkF (σ 5) t S.2.1)) ((((su_nn (by decide)).trans (su_nn (by decide))).trans (su_nn (by decide))).trans su_at) (fun _ => nI (tkT (σ 5) t S.2.1)) (((su_nn (by decide)).trans (su_nn (by decide))).trans su_at) (fun _ => tkV (σ 5) t S.2.1) ((su_nn (by decide)).trans su_at) (fun _ => bI (S.1 = true)) (su_at) t false S hT ht hi rfl rfl rfl rfl rfl rfl) mv_X6_needs ml_RX6_111 rfl ⟨Nat.le_of_ble_eq_true rfl, Nat.le_of_ble_eq_true rfl⟩ ⟨rfl, rfl⟩ (q0 := 0) rfl rfl rfl rfl rfl rfl (Nat.le_of_ble_eq_true rfl) dX6_itemHere_53 ?_
      refine r_blk (blk' := wM cs h (su (su (su (su (su (su σ 0 ((ndS (σ 5) t false S).2.2)) 7 (fun _ => nI (tkK (σ 5) t (ndS (σ 5) t false S).2.1))) 8 (fun _ => nI (tkF (σ 5) t (ndS (σ 5) t false S).2.1))) 9 (fun _ => nI (tkT (σ 5) t (ndS (σ 5) t false S).2.1))) 10 (fun _ => tkV (σ 5) t (ndS (σ 5) t false S).2.1)) 11 (fun _ => bI ((ndS (σ 5) t false S).1 = true)))) (congrArg (wM cs h) (by rw [su_cm (k := 11) (j := 0) (by decide), su_cm (k := 10) (j := 0) (by decide), su_cm (k := 9) (j := 0) (by decide), su_cm (k := 8) (j := 0) (by decide), su_cm (k := 7) (j := 0) (by decide), su_su (k := 0), su_cm (k := 11) (j := 7) (by decide), su_cm (k := 10) (j := 7) (by decide), su_cm (k := 9) (j := 7) (by decide), su_cm (k := 8) (j := 7) (by decide), su_su (k := 7), su_cm (k := 11) (j := 8) (by decide), su_cm (k := 10) (j := 8) (by decide), su_cm (k := 9) (j := 8) (by decide), su_su (k := 8), su_cm (k := 11) (j := 9) (by decide), su_cm (k := 10) (j := 9) (by decide), su_su (k := 9), su_cm (k := 11) (j := 10) (by decide), su_su (k := 10), su_su (k := 11)])) ?_
      have f_3 : (ndS (σ 5) t false S).2.1 ≤ t := ndS_le hi
      refine r_blk (blk' := wM cs h (su (su (su (su (su (su σ 0 ((it1 (σ 5) t n S).2.2)) 7 (fun _ => nI (tkK (σ 5) t (it1 (σ 5) t n S).2.1))) 8 (fun _ => nI (tkF (σ 5) t (it1 (σ 5) t n S).2.1))) 9 (fun _ => nI (tkT (σ 5) t (it1 (σ 5) t n S).2.1))) 10 (fun _ => tkV (σ 5) t (it1 (σ 5) t n S).2.1)) 11 (fun _ => bI ((it1 (σ 5) t n S).1 = true)))) (by rw [show (it1 (σ 5) t n S) = (ndS (σ 5) t false S) from it_n ‹_› ‹_›] <;> rfl) ?_
      have hi7 : (it1 (σ 5) t n S).2.1 ≤ t := it1_le hi
      have hf7 := tkF_le (T := σ 5) hi7
      have hk7 := tkK_le (σ 5) t (it1 (σ 5) t n S).2.1
      refine r_aload_n (pc := 56) C 2 dX6_itemHere_56 rfl rfl ?_
      refine r_aload_n (pc := 57) C 2 dX6_itemHere_57 rfl rfl ?_
      refine mg_token (pc := 58) C fl_RX6_84 dX6_itemHere_58 (nI (tkK (σ 5) t (it1 (σ 5) t n S).2.1)) (congrFun (((((su_nn (by decide)).trans (su_nn (by decide))).trans (su_nn (by decide))).trans (su_nn (by decide))).trans su_at) 0) ?_
      refine r_iconst (pc := 61) C 3 dX6_itemHere_61 (by decide) ?_
      refine r_icmp_ne (pc := 62) C 82 dX6_itemHere_62 (by decide) (fun c_4 => ?_) (fun c_4 => ?_)
      · skip
        have c_4 := nIc_ne_t (a := (tkK (σ 5) t (it1 (σ 5) t n S).2.1)) (b := 3) (by omega) (by omega) c_4
        have hse : seB (σ 5) t (it1 (σ 5) t n S).2.1 = false := se_1 c_4
        refine r_iconst (pc := 82) C 0 dX6_itemHere_82 (by decide) ?_
        refine rc_Vv (pc := 83) C (t_X6_needs' l ad D cs h (su (su (su (su (su (su σ 0 ((it1 (σ 5) t n S).2.2)) 7 (fun _ => nI (tkK (σ 5) t (it1 (σ 5) t n S).2.1))) 8 (fun _ => nI (tkF (σ 5) t (it1 (σ 5) t n S).2.1))) 9 (fun _ => nI (tkT (σ 5) t (it1 (σ 5) t n S).2.1))) 10 (fun _ => tkV (σ 5) t (it1 (σ 5) t n S).2.1)) 11 (fun _ => bI ((it1 (σ 5) t n S).1 = true))) pre post ((it1 (σ 5) t n S).2.2) ((((((su_nn (by decide)).trans (su_nn (by decide))).trans (su_nn (by decide))).trans (su_nn (by decide))).trans (su_nn (by decide))).trans su_at) (σ 5) (((((((su_nn (by decide)).trans (su_nn (by decide))).trans (su_nn (by decide))).trans (su_nn (by decide))).trans (su_nn (by decide))).trans (su_nn (by decide)))) (σ 6) (((((((su_nn (by decide)).trans (su_nn (by decide))).trans (su_nn (by decide))).trans (su_nn (by decide))).trans (su_nn (by decide))).trans (su_nn (by decide)))) (fun _ => nI (tkK (σ 5) t (it1 (σ 5) t n S).2.1)) (((((su_nn (by decide)).trans (su_nn (by decide))).trans (su_nn (by decide))).trans (su_nn (by decide))).trans su_at) (fun _ => nI (tkF (σ 5) t (it1 (σ 5) t n S).2.1)) ((((su_nn (by decide)).trans (su_nn (by decide))).trans (su_nn (by decide))).trans su_at) (fun _ => nI (tkT (σ 5) t (it1 (σ 5) t n S).2.1)) (((su_nn (by decide)).trans (su_nn (by decide))).trans su_at) (fun _ => tkV (σ 5) t (it1 (σ 5) t n S).2.1) ((su_nn (by decide)).trans su_at) (fun _ => bI ((it1 (σ 5) t n S).1 = true)) (su_at) t false (it1 (σ 5) t n S) hT ht hi7 rfl rfl rfl rfl rfl rfl) mv_X6_needs ml_RX6_111 rfl ⟨Nat.le_of_ble_eq_true rfl, Nat.le_of_ble_eq_true rfl⟩ ⟨rfl, rfl⟩ (q0 := 0) rfl rfl rfl rfl rfl rfl (Nat.le_of_ble_eq_true rfl) dX6_itemHere_83 ?_
        refine r_blk (blk' := wM cs h (su (su (su (su (su (su σ 0 ((ndS (σ 5) t false (it1 (σ 5) t n S)).2.2)) 7 (fun _ => nI (tkK (σ 5) t (ndS (σ 5) t false (it1 (σ 5) t n S)).2.1))) 8 (fun _ => nI (tkF (σ 5) t (ndS (σ 5) t false (it1 (σ 5) t n S)).2.1))) 9 (fun _ => nI (tkT (σ 5) t (ndS (σ 5) t false (it1 (σ 5) t n S)).2.1))) 10 (fun _ => tkV (σ 5) t (ndS (σ 5) t false (it1 (σ 5) t n S)).2.1)) 11 (fun _ => bI ((ndS (σ 5) t false (it1 (σ 5) t n S)).1 = true)))) (congrArg (wM cs h) (by rw [su_cm (k := 11) (j := 0) (by decide), su_cm (k := 10) (j := 0) (by decide), su_cm (k := 9) (j := 0) (by decide), su_cm (k := 8) (j := 0) (by decide), su_cm (k := 7) (j := 0) (by decide), su_su (k := 0), su_cm (k := 11) (j := 7) (by decide), su_cm (k := 10) (j := 7) (by decide), su_cm (k := 9) (j := 7) (by decide), su_cm (k := 8) (j := 7) (by decide), su_su (k := 7), su_cm (k := 11) (j := 8) (by decide), su_cm (k := 10) (j := 8) (by decide), su_cm (k := 9) (j := 8) (by decide), su_su (k := 8), su_cm (k := 11) (j := 9) (by decide), su_cm (k := 10) (j := 9) (by decide), su_su (k := 9), su_cm (k := 11) (j := 10) (by decide), su_su (k := 10), su_su (k := 11)])) ?_
        have f_5 : (ndS (σ 5) t false (it1 (σ 5) t n S)).2.1 ≤ t := ndS_le hi7
        exact r_vret (pc := 86) C hr hlk dX6_itemHere_86 (by rw [show itS (σ 5) t n S = ndS (σ 5) t false (it1 (σ 5) t n S) from it_b hse] <;> rfl)
      · skip
        have c_4 := nIc_ne_f (a := (tkK (σ 5) t (it1 (σ 5) t n S).2.1)) (b := 3) (by omega) (by omega) c_4
        have hs3 := c_4
        refine r_aload_n (pc := 65) C 2 dX6_itemHere_65 rfl rfl ?_
        refine r_aload_n (pc := 66) C 2 dX6_itemHere_66 rfl rfl ?_
        refine mg_from (pc := 67) C fl_RX6_70 dX6_itemHere_67 (nI (tkF (σ 5) t (it1 (σ 5) t n S).2.1)) (congrFun ((((su_nn (by decide)).trans (su_nn (by decide))).trans (su_nn (by decide))).trans su_at) 0) ?_
        refine rc_Vi (pc := 70) C (t_X6_byteAt' l ad D cs h (su (su (su (su (su (su σ 0 ((it1 (σ 5) t n S).2.2)) 7 (fun _ => nI (tkK (σ 5) t (it1 (σ 5) t n S).2.1))) 8 (fun _ => nI (tkF (σ 5) t (it1 (σ 5) t n S).2.1))) 9 (fun _ => nI (tkT (σ 5) t (it1 (σ 5) t n S).2.1))) 10 (fun _ => tkV (σ 5) t (it1 (σ 5) t n S).2.1)) 11 (fun _ => bI ((it1 (σ 5) t n S).1 = true))) pre post (σ 5) (((((((su_nn (by decide)).trans (su_nn (by decide))).trans (su_nn (by decide))).trans (su_nn (by decide))).trans (su_nn (by decide))).trans (su_nn (by decide)))) (σ 6) (((((((su_nn (by decide)).trans (su_nn (by decide))).trans (su_nn (by decide))).trans (su_nn (by decide))).trans (su_nn (by decide))).trans (su_nn (by decide)))) t (tkF (σ 5) t (it1 (σ 5) t n S).2.1) hT ht (by omega)) mv_X6_byteAt ml_RX6_73 rfl ⟨Nat.le_of_ble_eq_true rfl, Nat.le_of_ble_eq_true rfl⟩ ⟨rfl, rfl⟩ (q0 := 0) rfl rfl rfl rfl rfl rfl (Nat.le_of_ble_eq_true rfl) dX6_itemHere_70 ?_
        refine r_bipush (pc := 73) C 59 dX6_itemHere_73 (by decide) ?_
        refine r_icmp_ne (pc := 75) C 82 dX6_itemHere_75 (by decide) (fun c_6 => ?_) (fun c_6 => ?_)
        · skip
          have hse : seB (σ 5) t (it1 (σ 5) t n S).2.1 = false := se_2 c_6
          refine r_iconst (pc := 82) C 0 dX6_itemHere_82 (by decide) ?_
          refine rc_Vv (pc := 83) C (t_X6_needs' l ad D cs h (su (su (su (su (su (su σ 0 ((it1 (σ 5) t n S).2.2)) 7 (fun _ => nI (tkK (σ 5) t (it1 (σ 5) t n S).2.1))) 8 (fun _ => nI (tkF (σ 5) t (it1 (σ 5) t n S).2.1))) 9 (fun _ => nI (tkT (σ 5) t (it1 (σ 5) t n S).2.1))) 10 (fun _ => tkV (σ 5) t (it1 (σ 5) t n S).2.1)) 11 (fun _ => bI ((it1 (σ 5) t n S).1 = true))) pre post ((it1 (σ 5) t n S).2.2) ((((((su_nn (by decide)).trans (su_nn (by decide))).trans (su_nn (by decide))).trans (su_nn (by decide))).trans (su_nn (by decide))).trans su_at) (σ 5) (((((((su_nn (by decide)).trans (su_nn (by decide))).trans (su_nn (by decide))).trans (su_nn (by decide))).trans (su_nn (by decide))).trans (su_nn (by decide)))) (σ 6) (((((((su_nn (by decide)).trans (su_nn (by decide))).trans (su_nn (by decide))).trans (su_nn (by decide))).trans (su_nn (by decide))).trans (su_nn (by decide)))) (fun _ => nI (tkK (σ 5) t (it1 (σ 5) t n S).2.1)) (((((su_nn (by decide)).trans (su_nn (by decide))).trans (su_nn (by decide))).trans (su_nn (by decide))).trans su_at) (fun _ => nI (tkF (σ 5) t (it1 (σ 5) t n S).2.1)) ((((su_nn (by decide)).trans (su_nn (by decide))).trans (su_nn (by decide))).trans su_at) (fun _ => nI (tkT (σ 5) t (it1 (σ 5) t n S).2.1)) (((su_nn (by decide)).trans (su_nn (by decide))).trans su_at) (fun _ => tkV (σ 5) t (it1 (σ 5) t n S).2.1) ((su_nn (by decide)).trans su_at) (fun _ => bI ((it1 (σ 5) t n S).1 = true)) (su_at) t false (it1 (σ 5) t n S) hT ht hi7 rfl rfl rfl rfl rfl rfl) mv_X6_needs ml_RX6_111 rfl ⟨Nat.le_of_ble_eq_true rfl, Nat.le_of_ble_eq_true rfl⟩ ⟨rfl, rfl⟩ (q0 := 0) rfl rfl rfl rfl rfl rfl (Nat.le_of_ble_eq_true rfl) dX6_itemHere_83 ?_
          refine r_blk (blk' := wM cs h (su (su (su (su (su (su σ 0 ((ndS (σ 5) t false (it1 (σ 5) t n S)).2.2)) 7 (fun _ => nI (tkK (σ 5) t (ndS (σ 5) t false (it1 (σ 5) t n S)).2.1))) 8 (fun _ => nI (tkF (σ 5) t (ndS (σ 5) t false (it1 (σ 5) t n S)).2.1))) 9 (fun _ => nI (tkT (σ 5) t (ndS (σ 5) t false (it1 (σ 5) t n S)).2.1))) 10 (fun _ => tkV (σ 5) t (ndS (σ 5) t false (it1 (σ 5) t n S)).2.1)) 11 (fun _ => bI ((ndS (σ 5) t false (it1 (σ 5) t n S)).1 = true)))) (congrArg (wM cs h) (by rw [su_cm (k := 11) (j := 0) (by decide), su_cm (k := 10) (j := 0) (by decide), su_cm (k := 9) (j := 0) (by decide), su_cm (k := 8) (j := 0) (by decide), su_cm (k := 7) (j := 0) (by decide), su_su (k := 0), su_cm (k := 11) (j := 7) (by decide), su_cm (k := 10) (j := 7) (by decide), su_cm (k := 9) (j := 7) (by decide), su_cm (k := 8) (j := 7) (by decide), su_su (k := 7), su_cm (k := 11) (j := 8) (by decide), su_cm (k := 10) (j := 8) (by decide), su_cm (k := 9) (j := 8) (by decide), su_su (k := 8), su_cm (k := 11) (j := 9) (by decide), su_cm (k := 10) (j := 9) (by decide), su_su (k := 9), su_cm (k := 11) (j := 10) (by decide), su_su (k := 10), su_su (k := 11)])) ?_
          have f_7 : (ndS (σ 5) t false (it1 (σ 5) t n S)).2.1 ≤ t := ndS_le hi7
          exact r_vret (pc := 86) C hr hlk dX6_itemHere_86 (by rw [show itS (σ 5) t n S = ndS (σ 5) t false (it1 (σ 5) t n S) from it_b hse] <;> rfl)
        · skip
          have hse : seB (σ 5) t (it1 (σ 5) t n S).2.1 = true := se_0 hs3 c_6
          refine r_iconst (pc := 78) C 1 dX6_itemHere_78 (by decide) ?_
          refine r_goto (pc := 79) C 83 dX6_itemHere_79 (by decide) ?_
          refine rc_Vv (pc := 83) C (t_X6_needs' l ad D cs h (su (su (su (su (su (su σ 0 ((it1 (σ 5) t n S).2.2)) 7 (fun _ => nI (tkK (σ 5) t (it1 (σ 5) t n S).2.1))) 8 (fun _ => nI (tkF (σ 5) t (it1 (σ 5) t n S).2.1))) 9 (fun _ => nI (tkT (σ 5) t (it1 (σ 5) t n S).2.1))) 10 (fun _ => tkV (σ 5) t (it1 (σ 5) t n S).2.1)) 11 (fun _ => bI ((it1 (σ 5) t n S).1 = true))) pre post ((it1 (σ 5) t n S).2.2) ((((((su_nn (by decide)).trans (su_nn (by decide))).trans (su_nn (by decide))).trans (su_nn (by decide))).trans (su_nn (by decide))).trans su_at) (σ 5) (((((((su_nn (by decide)).trans (su_nn (by decide))).trans (su_nn (by decide))).trans (su_nn (by decide))).trans (su_nn (by decide))).trans (su_nn (by decide)))) (σ 6) (((((((su_nn (by decide)).trans (su_nn (by decide))).trans (su_nn (by decide))).trans (su_nn (by decide))).trans (su_nn (by decide))).trans (su_nn (by decide)))) (fun _ => nI (tkK (σ 5) t (it1 (σ 5) t n S).2.1)) (((((su_nn (by decide)).trans (su_nn (by decide))).trans (su_nn (by decide))).trans (su_nn (by decide))).trans su_at) (fun _ => nI (tkF (σ 5) t (it1 (σ 5) t n S).2.1)) ((((su_nn (by decide)).trans (su_nn (by decide))).trans (su_nn (by decide))).trans su_at) (fun _ => nI (tkT (σ 5) t (it1 (σ 5) t n S).2.1)) (((su_nn (by decide)).trans (su_nn (by decide))).trans su_at) (fun _ => tkV (σ 5) t (it1 (σ 5) t n S).2.1) ((su_nn (by decide)).trans su_at) (fun _ => bI ((it1 (σ 5) t n S).1 = true)) (su_at) t true (it1 (σ 5) t n S) hT ht hi7 rfl rfl rfl rfl rfl rfl) mv_X6_needs ml_RX6_111 rfl ⟨Nat.le_of_ble_eq_true rfl, Nat.le_of_ble_eq_true rfl⟩ ⟨rfl, rfl⟩ (q0 := 0) rfl rfl rfl rfl rfl rfl (Nat.le_of_ble_eq_true rfl) dX6_itemHere_83 ?_
          refine r_blk (blk' := wM cs h (su (su (su (su (su (su σ 0 ((ndS (σ 5) t true (it1 (σ 5) t n S)).2.2)) 7 (fun _ => nI (tkK (σ 5) t (ndS (σ 5) t true (it1 (σ 5) t n S)).2.1))) 8 (fun _ => nI (tkF (σ 5) t (ndS (σ 5) t true (it1 (σ 5) t n S)).2.1))) 9 (fun _ => nI (tkT (σ 5) t (ndS (σ 5) t true (it1 (σ 5) t n S)).2.1))) 10 (fun _ => tkV (σ 5) t (ndS (σ 5) t true (it1 (σ 5) t n S)).2.1)) 11 (fun _ => bI ((ndS (σ 5) t true (it1 (σ 5) t n S)).1 = true)))) (congrArg (wM cs h) (by rw [su_cm (k := 11) (j := 0) (by decide), su_cm (k := 10) (j := 0) (by decide), su_cm (k := 9) (j := 0) (by decide), su_cm (k := 8) (j := 0) (by decide), su_cm (k := 7) (j := 0) (by decide), su_su (k := 0), su_cm (k := 11) (j := 7) (by decide), su_cm (k := 10) (j := 7) (by decide), su_cm (k := 9) (j := 7) (by decide), su_cm (k := 8) (j := 7) (by decide), su_su (k := 7), su_cm (k := 11) (j := 8) (by decide), su_cm (k := 10) (j := 8) (by decide), su_cm (k := 9) (j := 8) (by decide), su_su (k := 8), su_cm (k := 11) (j := 9) (by decide), su_cm (k := 10) (j := 9) (by decide), su_su (k := 9), su_cm (k := 11) (j := 10) (by decide), su_su (k := 10), su_su (k := 11)])) ?_
          have f_8 : (ndS (σ 5) t true (it1 (σ 5) t n S)).2.1 ≤ t := ndS_le hi7
          exact r_vret (pc := 86) C hr hlk dX6_itemHere_86 (by rw [show itS (σ 5) t n S = ndS (σ 5) t true (it1 (σ 5) t n S) from it_b hse] <;> rfl)
    · skip
      obtain ⟨j, hj1, hj2, hj⟩ := la_nat c_2
      refine r_lv (lv' := [(2, .int (nI j)), (1, .int (kiF (σ 5) t S.2.1)), (0, .ref (h 0))]) (by rw [hj]) ?_
      refine r_aload_n (pc := 26) C 2 dX6_itemHere_26 rfl rfl ?_
      refine rc_Vv (pc := 27) C (t_X6_nextToken' l ad D cs h (su (su (su (su (su (su σ 0 S.2.2) 7 (fun _ => nI (tkK (σ 5) t S.2.1))) 8 (fun _ => nI (tkF (σ 5) t S.2.1))) 9 (fun _ => nI (tkT (σ 5) t S.2.1))) 10 (fun _ => tkV (σ 5) t S.2.1)) 11 (fun _ => bI (S.1 = true))) pre post (σ 5) (((((((su_nn (by decide)).trans (su_nn (by decide))).trans (su_nn (by decide))).trans (su_nn (by decide))).trans (su_nn (by decide))).trans (su_nn (by decide)))) (σ 6) (((((((su_nn (by decide)).trans (su_nn (by decide))).trans (su_nn (by decide))).trans (su_nn (by decide))).trans (su_nn (by decide))).trans (su_nn (by decide)))) (fun _ => nI (tkT (σ 5) t S.2.1)) (((su_nn (by decide)).trans (su_nn (by decide))).trans su_at) t (tkT (σ 5) t S.2.1) hT ht rfl (by omega)) mv_X6_nextToken ml_RX6_94 rfl ⟨Nat.le_of_ble_eq_true rfl, Nat.le_of_ble_eq_true rfl⟩ ⟨rfl, rfl⟩ (q0 := 0) rfl rfl rfl rfl rfl rfl (Nat.le_of_ble_eq_true rfl) dX6_itemHere_27 ?_
      refine r_blk (blk' := wM cs h (su (su (su (su (su (su σ 0 S.2.2) 7 (fun _ => nI (tkK (σ 5) t (tkT (σ 5) t S.2.1)))) 8 (fun _ => nI (tkF (σ 5) t (tkT (σ 5) t S.2.1)))) 9 (fun _ => nI (tkT (σ 5) t (tkT (σ 5) t S.2.1)))) 10 (fun _ => tkV (σ 5) t (tkT (σ 5) t S.2.1))) 11 (fun _ => bI (S.1 = true)))) (congrArg (wM cs h) (by rw [su_cm (k := 11) (j := 7) (by decide), su_cm (k := 10) (j := 7) (by decide), su_cm (k := 9) (j := 7) (by decide), su_cm (k := 8) (j := 7) (by decide), su_su (k := 7), su_cm (k := 11) (j := 8) (by decide), su_cm (k := 10) (j := 8) (by decide), su_cm (k := 9) (j := 8) (by decide), su_su (k := 8), su_cm (k := 11) (j := 9) (by decide), su_cm (k := 10) (j := 9) (by decide), su_su (k := 9), su_cm (k := 11) (j := 10) (by decide), su_su (k := 10)])) ?_
      refine r_blk (blk' := wM cs h (su (su (su (su (su (su σ 0 ((nxS (σ 5) t S).2.2)) 7 (fun _ => nI (tkK (σ 5) t (nxS (σ 5) t S).2.1))) 8 (fun _ => nI (tkF (σ 5) t (nxS (σ 5) t S).2.1))) 9 (fun _ => nI (tkT (σ 5) t (nxS (σ 5) t S).2.1))) 10 (fun _ => tkV (σ 5) t (nxS (σ 5) t S).2.1)) 11 (fun _ => bI ((nxS (σ 5) t S).1 = true)))) rfl ?_
      have hi9 : (nxS (σ 5) t S).2.1 ≤ t := (nxS_le hi)
      refine r_aload_n (pc := 30) C 2 dX6_itemHere_30 rfl rfl ?_
      refine r_iload_n (pc := 31) C 0 dX6_itemHere_31 rfl rfl ?_
      refine r_iload_n (pc := 32) C 0 dX6_itemHere_32 rfl rfl ?_
      refine r_bipush (pc := 33) C 7 dX6_itemHere_33 (by decide) ?_
      refine r_icmp_ne (pc := 35) C 43 dX6_itemHere_35 (by decide) (fun c_9 => ?_) (fun c_9 => ?_)
      · skip
        have c_9 := nIc_ne_t (a := j) (b := 7) (by omega) (by omega) c_9
        refine r_bipush (pc := 43) C 9 dX6_itemHere_43 (by decide) ?_
        refine rc_Vv (pc := 45) C (t_X6_numberTo' l ad D cs h (su (su (su (su (su (su σ 0 ((nxS (σ 5) t S).2.2)) 7 (fun _ => nI (tkK (σ 5) t (nxS (σ 5) t S).2.1))) 8 (fun _ => nI (tkF (σ 5) t (nxS (σ 5) t S).2.1))) 9 (fun _ => nI (tkT (σ 5) t (nxS (σ 5) t S).2.1))) 10 (fun _ => tkV (σ 5) t (nxS (σ 5) t S).2.1)) 11 (fun _ => bI ((nxS (σ 5) t S).1 = true))) pre post ((nxS (σ 5) t S).2.2) ((((((su_nn (by decide)).trans (su_nn (by decide))).trans (su_nn (by decide))).trans (su_nn (by decide))).trans (su_nn (by decide))).trans su_at) (σ 5) (((((((su_nn (by decide)).trans (su_nn (by decide))).trans (su_nn (by decide))).trans (su_nn (by decide))).trans (su_nn (by decide))).trans (su_nn (by decide)))) (σ 6) (((((((su_nn (by decide)).trans (su_nn (by decide))).trans (su_nn (by decide))).trans (su_nn (by decide))).trans (su_nn (by decide))).trans (su_nn (by decide)))) (fun _ => nI (tkK (σ 5) t (nxS (σ 5) t S).2.1)) (((((su_nn (by decide)).trans (su_nn (by decide))).trans (su_nn (by decide))).trans (su_nn (by decide))).trans su_at) (fun _ => nI (tkF (σ 5) t (nxS (σ 5) t S).2.1)) ((((su_nn (by decide)).trans (su_nn (by decide))).trans (su_nn (by decide))).trans su_at) (fun _ => nI (tkT (σ 5) t (nxS (σ 5) t S).2.1)) (((su_nn (by decide)).trans (su_nn (by decide))).trans su_at) (fun _ => tkV (σ 5) t (nxS (σ 5) t S).2.1) ((su_nn (by decide)).trans su_at) (fun _ => bI ((nxS (σ 5) t S).1 = true)) (su_at) t j (9 : Int32) (nxS (σ 5) t S) hT ht hi9 rfl rfl rfl rfl rfl rfl (fun _ => by omega)) mv_X6_numberTo ml_RX6_115 rfl ⟨Nat.le_of_ble_eq_true rfl, Nat.le_of_ble_eq_true rfl⟩ ⟨rfl, rfl⟩ (q0 := 0) rfl rfl rfl rfl rfl rfl (Nat.le_of_ble_eq_true rfl) dX6_itemHere_45 ?_
        refine r_blk (blk' := wM cs h (su (su (su (su (su (su σ 0 ((ntS (σ 5) t j (9 : Int32) (nxS (σ 5) t S)).2.2)) 7 (fun _ => nI (tkK (σ 5) t (ntS (σ 5) t j (9 : Int32) (nxS (σ 5) t S)).2.1))) 8 (fun _ => nI (tkF (σ 5) t (ntS (σ 5) t j (9 : Int32) (nxS (σ 5) t S)).2.1))) 9 (fun _ => nI (tkT (σ 5) t (ntS (σ 5) t j (9 : Int32) (nxS (σ 5) t S)).2.1))) 10 (fun _ => tkV (σ 5) t (ntS (σ 5) t j (9 : Int32) (nxS (σ 5) t S)).2.1)) 11 (fun _ => bI ((ntS (σ 5) t j (9 : Int32) (nxS (σ 5) t S)).1 = true)))) (congrArg (wM cs h) (by rw [su_cm (k := 11) (j := 0) (by decide), su_cm (k := 10) (j := 0) (by decide), su_cm (k := 9) (j := 0) (by decide), su_cm (k := 8) (j := 0) (by decide), su_cm (k := 7) (j := 0) (by decide), su_su (k := 0), su_cm (k := 11) (j := 7) (by decide), su_cm (k := 10) (j := 7) (by decide), su_cm (k := 9) (j := 7) (by decide), su_cm (k := 8) (j := 7) (by decide), su_su (k := 7), su_cm (k := 11) (j := 8) (by decide), su_cm (k := 10) (j := 8) (by decide), su_cm (k := 9) (j := 8) (by decide), su_su (k := 8), su_cm (k := 11) (j := 9) (by decide), su_cm (k := 10) (j := 9) (by decide), su_su (k := 9), su_cm (k := 11) (j := 10) (by decide), su_su (k := 10), su_su (k := 11)])) ?_
        have f_10 : (ntS (σ 5) t j (9 : Int32) (nxS (σ 5) t S)).2.1 ≤ t := ntS_le hi9
        refine r_goto (pc := 48) C 56 dX6_itemHere_48 (by decide) ?_
        refine r_blk (blk' := wM cs h (su (su (su (su (su (su σ 0 ((it1 (σ 5) t n S).2.2)) 7 (fun _ => nI (tkK (σ 5) t (it1 (σ 5) t n S).2.1))) 8 (fun _ => nI (tkF (σ 5) t (it1 (σ 5) t n S).2.1))) 9 (fun _ => nI (tkT (σ 5) t (it1 (σ 5) t n S).2.1))) 10 (fun _ => tkV (σ 5) t (it1 (σ 5) t n S).2.1)) 11 (fun _ => bI ((it1 (σ 5) t n S).1 = true)))) (by rw [show (it1 (σ 5) t n S) = (ntS (σ 5) t j 9 (nxS (σ 5) t S)) from it_9 ‹_› ‹_› hj hj2 ‹_›] <;> rfl) ?_
        have hi7 : (it1 (σ 5) t n S).2.1 ≤ t := it1_le hi
        have hf7 := tkF_le (T := σ 5) hi7
        have hk7 := tkK_le (σ 5) t (it1 (σ 5) t n S).2.1
        refine r_aload_n (pc := 56) C 2 dX6_itemHere_56 rfl rfl ?_
        refine r_aload_n (pc := 57) C 2 dX6_itemHere_57 rfl rfl ?_
        refine mg_token (pc := 58) C fl_RX6_84 dX6_itemHere_58 (nI (tkK (σ 5) t (it1 (σ 5) t n S).2.1)) (congrFun (((((su_nn (by decide)).trans (su_nn (by decide))).trans (su_nn (by decide))).trans (su_nn (by decide))).trans su_at) 0) ?_
        refine r_iconst (pc := 61) C 3 dX6_itemHere_61 (by decide) ?_
        refine r_icmp_ne (pc := 62) C 82 dX6_itemHere_62 (by decide) (fun c_11 => ?_) (fun c_11 => ?_)
        · skip
          have c_11 := nIc_ne_t (a := (tkK (σ 5) t (it1 (σ 5) t n S).2.1)) (b := 3) (by omega) (by omega) c_11
          have hse : seB (σ 5) t (it1 (σ 5) t n S).2.1 = false := se_1 c_11
          refine r_iconst (pc := 82) C 0 dX6_itemHere_82 (by decide) ?_
          refine rc_Vv (pc := 83) C (t_X6_needs' l ad D cs h (su (su (su (su (su (su σ 0 ((it1 (σ 5) t n S).2.2)) 7 (fun _ => nI (tkK (σ 5) t (it1 (σ 5) t n S).2.1))) 8 (fun _ => nI (tkF (σ 5) t (it1 (σ 5) t n S).2.1))) 9 (fun _ => nI (tkT (σ 5) t (it1 (σ 5) t n S).2.1))) 10 (fun _ => tkV (σ 5) t (it1 (σ 5) t n S).2.1)) 11 (fun _ => bI ((it1 (σ 5) t n S).1 = true))) pre post ((it1 (σ 5) t n S).2.2) ((((((su_nn (by decide)).trans (su_nn (by decide))).trans (su_nn (by decide))).trans (su_nn (by decide))).trans (su_nn (by decide))).trans su_at) (σ 5) (((((((su_nn (by decide)).trans (su_nn (by decide))).trans (su_nn (by decide))).trans (su_nn (by decide))).trans (su_nn (by decide))).trans (su_nn (by decide)))) (σ 6) (((((((su_nn (by decide)).trans (su_nn (by decide))).trans (su_nn (by decide))).trans (su_nn (by decide))).trans (su_nn (by decide))).trans (su_nn (by decide)))) (fun _ => nI (tkK (σ 5) t (it1 (σ 5) t n S).2.1)) (((((su_nn (by decide)).trans (su_nn (by decide))).trans (su_nn (by decide))).trans (su_nn (by decide))).trans su_at) (fun _ => nI (tkF (σ 5) t (it1 (σ 5) t n S).2.1)) ((((su_nn (by decide)).trans (su_nn (by decide))).trans (su_nn (by decide))).trans su_at) (fun _ => nI (tkT (σ 5) t (it1 (σ 5) t n S).2.1)) (((su_nn (by decide)).trans (su_nn (by decide))).trans su_at) (fun _ => tkV (σ 5) t (it1 (σ 5) t n S).2.1) ((su_nn (by decide)).trans su_at) (fun _ => bI ((it1 (σ 5) t n S).1 = true)) (su_at) t false (it1 (σ 5) t n S) hT ht hi7 rfl rfl rfl rfl rfl rfl) mv_X6_needs ml_RX6_111 rfl ⟨Nat.le_of_ble_eq_true rfl, Nat.le_of_ble_eq_true rfl⟩ ⟨rfl, rfl⟩ (q0 := 0) rfl rfl rfl rfl rfl rfl (Nat.le_of_ble_eq_true rfl) dX6_itemHere_83 ?_
          refine r_blk (blk' := wM cs h (su (su (su (su (su (su σ 0 ((ndS (σ 5) t false (it1 (σ 5) t n S)).2.2)) 7 (fun _ => nI (tkK (σ 5) t (ndS (σ 5) t false (it1 (σ 5) t n S)).2.1))) 8 (fun _ => nI (tkF (σ 5) t (ndS (σ 5) t false (it1 (σ 5) t n S)).2.1))) 9 (fun _ => nI (tkT (σ 5) t (ndS (σ 5) t false (it1 (σ 5) t n S)).2.1))) 10 (fun _ => tkV (σ 5) t (ndS (σ 5) t false (it1 (σ 5) t n S)).2.1)) 11 (fun _ => bI ((ndS (σ 5) t false (it1 (σ 5) t n S)).1 = true)))) (congrArg (wM cs h) (by rw [su_cm (k := 11) (j := 0) (by decide), su_cm (k := 10) (j := 0) (by decide), su_cm (k := 9) (j := 0) (by decide), su_cm (k := 8) (j := 0) (by decide), su_cm (k := 7) (j := 0) (by decide), su_su (k := 0), su_cm (k := 11) (j := 7) (by decide), su_cm (k := 10) (j := 7) (by decide), su_cm (k := 9) (j := 7) (by decide), su_cm (k := 8) (j := 7) (by decide), su_su (k := 7), su_cm (k := 11) (j := 8) (by decide), su_cm (k := 10) (j := 8) (by decide), su_cm (k := 9) (j := 8) (by decide), su_su (k := 8), su_cm (k := 11) (j := 9) (by decide), su_cm (k := 10) (j := 9) (by decide), su_su (k := 9), su_cm (k := 11) (j := 10) (by decide), su_su (k := 10), su_su (k := 11)])) ?_
          have f_12 : (ndS (σ 5) t false (it1 (σ 5) t n S)).2.1 ≤ t := ndS_le hi7
          exact r_vret (pc := 86) C hr hlk dX6_itemHere_86 (by rw [show itS (σ 5) t n S = ndS (σ 5) t false (it1 (σ 5) t n S) from it_b hse] <;> rfl)
        · skip
          have c_11 := nIc_ne_f (a := (tkK (σ 5) t (it1 (σ 5) t n S).2.1)) (b := 3) (by omega) (by omega) c_11
          have hs3 := c_11
          refine r_aload_n (pc := 65) C 2 dX6_itemHere_65 rfl rfl ?_
          refine r_aload_n (pc := 66) C 2 dX6_itemHere_66 rfl rfl ?_
          refine mg_from (pc := 67) C fl_RX6_70 dX6_itemHere_67 (nI (tkF (σ 5) t (it1 (σ 5) t n S).2.1)) (congrFun ((((su_nn (by decide)).trans (su_nn (by decide))).trans (su_nn (by decide))).trans su_at) 0) ?_
          refine rc_Vi (pc := 70) C (t_X6_byteAt' l ad D cs h (su (su (su (su (su (su σ 0 ((it1 (σ 5) t n S).2.2)) 7 (fun _ => nI (tkK (σ 5) t (it1 (σ 5) t n S).2.1))) 8 (fun _ => nI (tkF (σ 5) t (it1 (σ 5) t n S).2.1))) 9 (fun _ => nI (tkT (σ 5) t (it1 (σ 5) t n S).2.1))) 10 (fun _ => tkV (σ 5) t (it1 (σ 5) t n S).2.1)) 11 (fun _ => bI ((it1 (σ 5) t n S).1 = true))) pre post (σ 5) (((((((su_nn (by decide)).trans (su_nn (by decide))).trans (su_nn (by decide))).trans (su_nn (by decide))).trans (su_nn (by decide))).trans (su_nn (by decide)))) (σ 6) (((((((su_nn (by decide)).trans (su_nn (by decide))).trans (su_nn (by decide))).trans (su_nn (by decide))).trans (su_nn (by decide))).trans (su_nn (by decide)))) t (tkF (σ 5) t (it1 (σ 5) t n S).2.1) hT ht (by omega)) mv_X6_byteAt ml_RX6_73 rfl ⟨Nat.le_of_ble_eq_true rfl, Nat.le_of_ble_eq_true rfl⟩ ⟨rfl, rfl⟩ (q0 := 0) rfl rfl rfl rfl rfl rfl (Nat.le_of_ble_eq_true rfl) dX6_itemHere_70 ?_
          refine r_bipush (pc := 73) C 59 dX6_itemHere_73 (by decide) ?_
          refine r_icmp_ne (pc := 75) C 82 dX6_itemHere_75 (by decide) (fun c_13 => ?_) (fun c_13 => ?_)
          · skip
            have hse : seB (σ 5) t (it1 (σ 5) t n S).2.1 = false := se_2 c_13
            refine r_iconst (pc := 82) C 0 dX6_itemHere_82 (by decide) ?_
            refine rc_Vv (pc := 83) C (t_X6_needs' l ad D cs h (su (su (su (su (su (su σ 0 ((it1 (σ 5) t n S).2.2)) 7 (fun _ => nI (tkK (σ 5) t (it1 (σ 5) t n S).2.1))) 8 (fun _ => nI (tkF (σ 5) t (it1 (σ 5) t n S).2.1))) 9 (fun _ => nI (tkT (σ 5) t (it1 (σ 5) t n S).2.1))) 10 (fun _ => tkV (σ 5) t (it1 (σ 5) t n S).2.1)) 11 (fun _ => bI ((it1 (σ 5) t n S).1 = true))) pre post ((it1 (σ 5) t n S).2.2) ((((((su_nn (by decide)).trans (su_nn (by decide))).trans (su_nn (by decide))).trans (su_nn (by decide))).trans (su_nn (by decide))).trans su_at) (σ 5) (((((((su_nn (by decide)).trans (su_nn (by decide))).trans (su_nn (by decide))).trans (su_nn (by decide))).trans (su_nn (by decide))).trans (su_nn (by decide)))) (σ 6) (((((((su_nn (by decide)).trans (su_nn (by decide))).trans (su_nn (by decide))).trans (su_nn (by decide))).trans (su_nn (by decide))).trans (su_nn (by decide)))) (fun _ => nI (tkK (σ 5) t (it1 (σ 5) t n S).2.1)) (((((su_nn (by decide)).trans (su_nn (by decide))).trans (su_nn (by decide))).trans (su_nn (by decide))).trans su_at) (fun _ => nI (tkF (σ 5) t (it1 (σ 5) t n S).2.1)) ((((su_nn (by decide)).trans (su_nn (by decide))).trans (su_nn (by decide))).trans su_at) (fun _ => nI (tkT (σ 5) t (it1 (σ 5) t n S).2.1)) (((su_nn (by decide)).trans (su_nn (by decide))).trans su_at) (fun _ => tkV (σ 5) t (it1 (σ 5) t n S).2.1) ((su_nn (by decide)).trans su_at) (fun _ => bI ((it1 (σ 5) t n S).1 = true)) (su_at) t false (it1 (σ 5) t n S) hT ht hi7 rfl rfl rfl rfl rfl rfl) mv_X6_needs ml_RX6_111 rfl ⟨Nat.le_of_ble_eq_true rfl, Nat.le_of_ble_eq_true rfl⟩ ⟨rfl, rfl⟩ (q0 := 0) rfl rfl rfl rfl rfl rfl (Nat.le_of_ble_eq_true rfl) dX6_itemHere_83 ?_
            refine r_blk (blk' := wM cs h (su (su (su (su (su (su σ 0 ((ndS (σ 5) t false (it1 (σ 5) t n S)).2.2)) 7 (fun _ => nI (tkK (σ 5) t (ndS (σ 5) t false (it1 (σ 5) t n S)).2.1))) 8 (fun _ => nI (tkF (σ 5) t (ndS (σ 5) t false (it1 (σ 5) t n S)).2.1))) 9 (fun _ => nI (tkT (σ 5) t (ndS (σ 5) t false (it1 (σ 5) t n S)).2.1))) 10 (fun _ => tkV (σ 5) t (ndS (σ 5) t false (it1 (σ 5) t n S)).2.1)) 11 (fun _ => bI ((ndS (σ 5) t false (it1 (σ 5) t n S)).1 = true)))) (congrArg (wM cs h) (by rw [su_cm (k := 11) (j := 0) (by decide), su_cm (k := 10) (j := 0) (by decide), su_cm (k := 9) (j := 0) (by decide), su_cm (k := 8) (j := 0) (by decide), su_cm (k := 7) (j := 0) (by decide), su_su (k := 0), su_cm (k := 11) (j := 7) (by decide), su_cm (k := 10) (j := 7) (by decide), su_cm (k := 9) (j := 7) (by decide), su_cm (k := 8) (j := 7) (by decide), su_su (k := 7), su_cm (k := 11) (j := 8) (by decide), su_cm (k := 10) (j := 8) (by decide), su_cm (k := 9) (j := 8) (by decide), su_su (k := 8), su_cm (k := 11) (j := 9) (by decide), su_cm (k := 10) (j := 9) (by decide), su_su (k := 9), su_cm (k := 11) (j := 10) (by decide), su_su (k := 10), su_su (k := 11)])) ?_
            have f_14 : (ndS (σ 5) t false (it1 (σ 5) t n S)).2.1 ≤ t := ndS_le hi7
            exact r_vret (pc := 86) C hr hlk dX6_itemHere_86 (by rw [show itS (σ 5) t n S = ndS (σ 5) t false (it1 (σ 5) t n S) from it_b hse] <;> rfl)
          · skip
            have hse : seB (σ 5) t (it1 (σ 5) t n S).2.1 = true := se_0 hs3 c_13
            refine r_iconst (pc := 78) C 1 dX6_itemHere_78 (by decide) ?_
            refine r_goto (pc := 79) C 83 dX6_itemHere_79 (by decide) ?_
            refine rc_Vv (pc := 83) C (t_X6_needs' l ad D cs h (su (su (su (su (su (su σ 0 ((it1 (σ 5) t n S).2.2)) 7 (fun _ => nI (tkK (σ 5) t (it1 (σ 5) t n S).2.1))) 8 (fun _ => nI (tkF (σ 5) t (it1 (σ 5) t n S).2.1))) 9 (fun _ => nI (tkT (σ 5) t (it1 (σ 5) t n S).2.1))) 10 (fun _ => tkV (σ 5) t (it1 (σ 5) t n S).2.1)) 11 (fun _ => bI ((it1 (σ 5) t n S).1 = true))) pre post ((it1 (σ 5) t n S).2.2) ((((((su_nn (by decide)).trans (su_nn (by decide))).trans (su_nn (by decide))).trans (su_nn (by decide))).trans (su_nn (by decide))).trans su_at) (σ 5) (((((((su_nn (by decide)).trans (su_nn (by decide))).trans (su_nn (by decide))).trans (su_nn (by decide))).trans (su_nn (by decide))).trans (su_nn (by decide)))) (σ 6) (((((((su_nn (by decide)).trans (su_nn (by decide))).trans (su_nn (by decide))).trans (su_nn (by decide))).trans (su_nn (by decide))).trans (su_nn (by decide)))) (fun _ => nI (tkK (σ 5) t (it1 (σ 5) t n S).2.1)) (((((su_nn (by decide)).trans (su_nn (by decide))).trans (su_nn (by decide))).trans (su_nn (by decide))).trans su_at) (fun _ => nI (tkF (σ 5) t (it1 (σ 5) t n S).2.1)) ((((su_nn (by decide)).trans (su_nn (by decide))).trans (su_nn (by decide))).trans su_at) (fun _ => nI (tkT (σ 5) t (it1 (σ 5) t n S).2.1)) (((su_nn (by decide)).trans (su_nn (by decide))).trans su_at) (fun _ => tkV (σ 5) t (it1 (σ 5) t n S).2.1) ((su_nn (by decide)).trans su_at) (fun _ => bI ((it1 (σ 5) t n S).1 = true)) (su_at) t true (it1 (σ 5) t n S) hT ht hi7 rfl rfl rfl rfl rfl rfl) mv_X6_needs ml_RX6_111 rfl ⟨Nat.le_of_ble_eq_true rfl, Nat.le_of_ble_eq_true rfl⟩ ⟨rfl, rfl⟩ (q0 := 0) rfl rfl rfl rfl rfl rfl (Nat.le_of_ble_eq_true rfl) dX6_itemHere_83 ?_
            refine r_blk (blk' := wM cs h (su (su (su (su (su (su σ 0 ((ndS (σ 5) t true (it1 (σ 5) t n S)).2.2)) 7 (fun _ => nI (tkK (σ 5) t (ndS (σ 5) t true (it1 (σ 5) t n S)).2.1))) 8 (fun _ => nI (tkF (σ 5) t (ndS (σ 5) t true (it1 (σ 5) t n S)).2.1))) 9 (fun _ => nI (tkT (σ 5) t (ndS (σ 5) t true (it1 (σ 5) t n S)).2.1))) 10 (fun _ => tkV (σ 5) t (ndS (σ 5) t true (it1 (σ 5) t n S)).2.1)) 11 (fun _ => bI ((ndS (σ 5) t true (it1 (σ 5) t n S)).1 = true)))) (congrArg (wM cs h) (by rw [su_cm (k := 11) (j := 0) (by decide), su_cm (k := 10) (j := 0) (by decide), su_cm (k := 9) (j := 0) (by decide), su_cm (k := 8) (j := 0) (by decide), su_cm (k := 7) (j := 0) (by decide), su_su (k := 0), su_cm (k := 11) (j := 7) (by decide), su_cm (k := 10) (j := 7) (by decide), su_cm (k := 9) (j := 7) (by decide), su_cm (k := 8) (j := 7) (by decide), su_su (k := 7), su_cm (k := 11) (j := 8) (by decide), su_cm (k := 10) (j := 8) (by decide), su_cm (k := 9) (j := 8) (by decide), su_su (k := 8), su_cm (k := 11) (j := 9) (by decide), su_cm (k := 10) (j := 9) (by decide), su_su (k := 9), su_cm (k := 11) (j := 10) (by decide), su_su (k := 10), su_su (k := 11)])) ?_
            have f_15 : (ndS (σ 5) t true (it1 (σ 5) t n S)).2.1 ≤ t := ndS_le hi7
            exact r_vret (pc := 86) C hr hlk dX6_itemHere_86 (by rw [show itS (σ 5) t n S = ndS (σ 5) t true (it1 (σ 5) t n S) from it_b hse] <;> rfl)
      · skip
        have c_9 := nIc_ne_f (a := j) (b := 7) (by omega) (by omega) c_9
        subst c_9
        refine r_bipush (pc := 38) C 99 dX6_itemHere_38 (by decide) ?_
        refine r_goto (pc := 40) C 45 dX6_itemHere_40 (by decide) ?_
        refine rc_Vv (pc := 45) C (t_X6_numberTo' l ad D cs h (su (su (su (su (su (su σ 0 ((nxS (σ 5) t S).2.2)) 7 (fun _ => nI (tkK (σ 5) t (nxS (σ 5) t S).2.1))) 8 (fun _ => nI (tkF (σ 5) t (nxS (σ 5) t S).2.1))) 9 (fun _ => nI (tkT (σ 5) t (nxS (σ 5) t S).2.1))) 10 (fun _ => tkV (σ 5) t (nxS (σ 5) t S).2.1)) 11 (fun _ => bI ((nxS (σ 5) t S).1 = true))) pre post ((nxS (σ 5) t S).2.2) ((((((su_nn (by decide)).trans (su_nn (by decide))).trans (su_nn (by decide))).trans (su_nn (by decide))).trans (su_nn (by decide))).trans su_at) (σ 5) (((((((su_nn (by decide)).trans (su_nn (by decide))).trans (su_nn (by decide))).trans (su_nn (by decide))).trans (su_nn (by decide))).trans (su_nn (by decide)))) (σ 6) (((((((su_nn (by decide)).trans (su_nn (by decide))).trans (su_nn (by decide))).trans (su_nn (by decide))).trans (su_nn (by decide))).trans (su_nn (by decide)))) (fun _ => nI (tkK (σ 5) t (nxS (σ 5) t S).2.1)) (((((su_nn (by decide)).trans (su_nn (by decide))).trans (su_nn (by decide))).trans (su_nn (by decide))).trans su_at) (fun _ => nI (tkF (σ 5) t (nxS (σ 5) t S).2.1)) ((((su_nn (by decide)).trans (su_nn (by decide))).trans (su_nn (by decide))).trans su_at) (fun _ => nI (tkT (σ 5) t (nxS (σ 5) t S).2.1)) (((su_nn (by decide)).trans (su_nn (by decide))).trans su_at) (fun _ => tkV (σ 5) t (nxS (σ 5) t S).2.1) ((su_nn (by decide)).trans su_at) (fun _ => bI ((nxS (σ 5) t S).1 = true)) (su_at) t 7 (99 : Int32) (nxS (σ 5) t S) hT ht hi9 rfl rfl rfl rfl rfl rfl (fun _ => by omega)) mv_X6_numberTo ml_RX6_115 rfl ⟨Nat.le_of_ble_eq_true rfl, Nat.le_of_ble_eq_true rfl⟩ ⟨rfl, rfl⟩ (q0 := 0) rfl rfl rfl rfl rfl rfl (Nat.le_of_ble_eq_true rfl) dX6_itemHere_45 ?_
        refine r_blk (blk' := wM cs h (su (su (su (su (su (su σ 0 ((ntS (σ 5) t 7 (99 : Int32) (nxS (σ 5) t S)).2.2)) 7 (fun _ => nI (tkK (σ 5) t (ntS (σ 5) t 7 (99 : Int32) (nxS (σ 5) t S)).2.1))) 8 (fun _ => nI (tkF (σ 5) t (ntS (σ 5) t 7 (99 : Int32) (nxS (σ 5) t S)).2.1))) 9 (fun _ => nI (tkT (σ 5) t (ntS (σ 5) t 7 (99 : Int32) (nxS (σ 5) t S)).2.1))) 10 (fun _ => tkV (σ 5) t (ntS (σ 5) t 7 (99 : Int32) (nxS (σ 5) t S)).2.1)) 11 (fun _ => bI ((ntS (σ 5) t 7 (99 : Int32) (nxS (σ 5) t S)).1 = true)))) (congrArg (wM cs h) (by rw [su_cm (k := 11) (j := 0) (by decide), su_cm (k := 10) (j := 0) (by decide), su_cm (k := 9) (j := 0) (by decide), su_cm (k := 8) (j := 0) (by decide), su_cm (k := 7) (j := 0) (by decide), su_su (k := 0), su_cm (k := 11) (j := 7) (by decide), su_cm (k := 10) (j := 7) (by decide), su_cm (k := 9) (j := 7) (by decide), su_cm (k := 8) (j := 7) (by decide), su_su (k := 7), su_cm (k := 11) (j := 8) (by decide), su_cm (k := 10) (j := 8) (by decide), su_cm (k := 9) (j := 8) (by decide), su_su (k := 8), su_cm (k := 11) (j := 9) (by decide), su_cm (k := 10) (j := 9) (by decide), su_su (k := 9), su_cm (k := 11) (j := 10) (by decide), su_su (k := 10), su_su (k := 11)])) ?_
        have f_16 : (ntS (σ 5) t 7 (99 : Int32) (nxS (σ 5) t S)).2.1 ≤ t := ntS_le hi9
        refine r_goto (pc := 48) C 56 dX6_itemHere_48 (by decide) ?_
        refine r_blk (blk' := wM cs h (su (su (su (su (su (su σ 0 ((it1 (σ 5) t n S).2.2)) 7 (fun _ => nI (tkK (σ 5) t (it1 (σ 5) t n S).2.1))) 8 (fun _ => nI (tkF (σ 5) t (it1 (σ 5) t n S).2.1))) 9 (fun _ => nI (tkT (σ 5) t (it1 (σ 5) t n S).2.1))) 10 (fun _ => tkV (σ 5) t (it1 (σ 5) t n S).2.1)) 11 (fun _ => bI ((it1 (σ 5) t n S).1 = true)))) (by rw [show (it1 (σ 5) t n S) = (ntS (σ 5) t 7 99 (nxS (σ 5) t S)) from it_7 ‹_› ‹_› hj] <;> rfl) ?_
        have hi7 : (it1 (σ 5) t n S).2.1 ≤ t := it1_le hi
        have hf7 := tkF_le (T := σ 5) hi7
        have hk7 := tkK_le (σ 5) t (it1 (σ 5) t n S).2.1
        refine r_aload_n (pc := 56) C 2 dX6_itemHere_56 rfl rfl ?_
        refine r_aload_n (pc := 57) C 2 dX6_itemHere_57 rfl rfl ?_
        refine mg_token (pc := 58) C fl_RX6_84 dX6_itemHere_58 (nI (tkK (σ 5) t (it1 (σ 5) t n S).2.1)) (congrFun (((((su_nn (by decide)).trans (su_nn (by decide))).trans (su_nn (by decide))).trans (su_nn (by decide))).trans su_at) 0) ?_
        refine r_iconst (pc := 61) C 3 dX6_itemHere_61 (by decide) ?_
        refine r_icmp_ne (pc := 62) C 82 dX6_itemHere_62 (by decide) (fun c_17 => ?_) (fun c_17 => ?_)
        · skip
          have c_17 := nIc_ne_t (a := (tkK (σ 5) t (it1 (σ 5) t n S).2.1)) (b := 3) (by omega) (by omega) c_17
          have hse : seB (σ 5) t (it1 (σ 5) t n S).2.1 = false := se_1 c_17
          refine r_iconst (pc := 82) C 0 dX6_itemHere_82 (by decide) ?_
          refine rc_Vv (pc := 83) C (t_X6_needs' l ad D cs h (su (su (su (su (su (su σ 0 ((it1 (σ 5) t n S).2.2)) 7 (fun _ => nI (tkK (σ 5) t (it1 (σ 5) t n S).2.1))) 8 (fun _ => nI (tkF (σ 5) t (it1 (σ 5) t n S).2.1))) 9 (fun _ => nI (tkT (σ 5) t (it1 (σ 5) t n S).2.1))) 10 (fun _ => tkV (σ 5) t (it1 (σ 5) t n S).2.1)) 11 (fun _ => bI ((it1 (σ 5) t n S).1 = true))) pre post ((it1 (σ 5) t n S).2.2) ((((((su_nn (by decide)).trans (su_nn (by decide))).trans (su_nn (by decide))).trans (su_nn (by decide))).trans (su_nn (by decide))).trans su_at) (σ 5) (((((((su_nn (by decide)).trans (su_nn (by decide))).trans (su_nn (by decide))).trans (su_nn (by decide))).trans (su_nn (by decide))).trans (su_nn (by decide)))) (σ 6) (((((((su_nn (by decide)).trans (su_nn (by decide))).trans (su_nn (by decide))).trans (su_nn (by decide))).trans (su_nn (by decide))).trans (su_nn (by decide)))) (fun _ => nI (tkK (σ 5) t (it1 (σ 5) t n S).2.1)) (((((su_nn (by decide)).trans (su_nn (by decide))).trans (su_nn (by decide))).trans (su_nn (by decide))).trans su_at) (fun _ => nI (tkF (σ 5) t (it1 (σ 5) t n S).2.1)) ((((su_nn (by decide)).trans (su_nn (by decide))).trans (su_nn (by decide))).trans su_at) (fun _ => nI (tkT (σ 5) t (it1 (σ 5) t n S).2.1)) (((su_nn (by decide)).trans (su_nn (by decide))).trans su_at) (fun _ => tkV (σ 5) t (it1 (σ 5) t n S).2.1) ((su_nn (by decide)).trans su_at) (fun _ => bI ((it1 (σ 5) t n S).1 = true)) (su_at) t false (it1 (σ 5) t n S) hT ht hi7 rfl rfl rfl rfl rfl rfl) mv_X6_needs ml_RX6_111 rfl ⟨Nat.le_of_ble_eq_true rfl, Nat.le_of_ble_eq_true rfl⟩ ⟨rfl, rfl⟩ (q0 := 0) rfl rfl rfl rfl rfl rfl (Nat.le_of_ble_eq_true rfl) dX6_itemHere_83 ?_
          refine r_blk (blk' := wM cs h (su (su (su (su (su (su σ 0 ((ndS (σ 5) t false (it1 (σ 5) t n S)).2.2)) 7 (fun _ => nI (tkK (σ 5) t (ndS (σ 5) t false (it1 (σ 5) t n S)).2.1))) 8 (fun _ => nI (tkF (σ 5) t (ndS (σ 5) t false (it1 (σ 5) t n S)).2.1))) 9 (fun _ => nI (tkT (σ 5) t (ndS (σ 5) t false (it1 (σ 5) t n S)).2.1))) 10 (fun _ => tkV (σ 5) t (ndS (σ 5) t false (it1 (σ 5) t n S)).2.1)) 11 (fun _ => bI ((ndS (σ 5) t false (it1 (σ 5) t n S)).1 = true)))) (congrArg (wM cs h) (by rw [su_cm (k := 11) (j := 0) (by decide), su_cm (k := 10) (j := 0) (by decide), su_cm (k := 9) (j := 0) (by decide), su_cm (k := 8) (j := 0) (by decide), su_cm (k := 7) (j := 0) (by decide), su_su (k := 0), su_cm (k := 11) (j := 7) (by decide), su_cm (k := 10) (j := 7) (by decide), su_cm (k := 9) (j := 7) (by decide), su_cm (k := 8) (j := 7) (by decide), su_su (k := 7), su_cm (k := 11) (j := 8) (by decide), su_cm (k := 10) (j := 8) (by decide), su_cm (k := 9) (j := 8) (by decide), su_su (k := 8), su_cm (k := 11) (j := 9) (by decide), su_cm (k := 10) (j := 9) (by decide), su_su (k := 9), su_cm (k := 11) (j := 10) (by decide), su_su (k := 10), su_su (k := 11)])) ?_
          have f_18 : (ndS (σ 5) t false (it1 (σ 5) t n S)).2.1 ≤ t := ndS_le hi7
          exact r_vret (pc := 86) C hr hlk dX6_itemHere_86 (by rw [show itS (σ 5) t n S = ndS (σ 5) t false (it1 (σ 5) t n S) from it_b hse] <;> rfl)
        · skip
          have c_17 := nIc_ne_f (a := (tkK (σ 5) t (it1 (σ 5) t n S).2.1)) (b := 3) (by omega) (by omega) c_17
          have hs3 := c_17
          refine r_aload_n (pc := 65) C 2 dX6_itemHere_65 rfl rfl ?_
          refine r_aload_n (pc := 66) C 2 dX6_itemHere_66 rfl rfl ?_
          refine mg_from (pc := 67) C fl_RX6_70 dX6_itemHere_67 (nI (tkF (σ 5) t (it1 (σ 5) t n S).2.1)) (congrFun ((((su_nn (by decide)).trans (su_nn (by decide))).trans (su_nn (by decide))).trans su_at) 0) ?_
          refine rc_Vi (pc := 70) C (t_X6_byteAt' l ad D cs h (su (su (su (su (su (su σ 0 ((it1 (σ 5) t n S).2.2)) 7 (fun _ => nI (tkK (σ 5) t (it1 (σ 5) t n S).2.1))) 8 (fun _ => nI (tkF (σ 5) t (it1 (σ 5) t n S).2.1))) 9 (fun _ => nI (tkT (σ 5) t (it1 (σ 5) t n S).2.1))) 10 (fun _ => tkV (σ 5) t (it1 (σ 5) t n S).2.1)) 11 (fun _ => bI ((it1 (σ 5) t n S).1 = true))) pre post (σ 5) (((((((su_nn (by decide)).trans (su_nn (by decide))).trans (su_nn (by decide))).trans (su_nn (by decide))).trans (su_nn (by decide))).trans (su_nn (by decide)))) (σ 6) (((((((su_nn (by decide)).trans (su_nn (by decide))).trans (su_nn (by decide))).trans (su_nn (by decide))).trans (su_nn (by decide))).trans (su_nn (by decide)))) t (tkF (σ 5) t (it1 (σ 5) t n S).2.1) hT ht (by omega)) mv_X6_byteAt ml_RX6_73 rfl ⟨Nat.le_of_ble_eq_true rfl, Nat.le_of_ble_eq_true rfl⟩ ⟨rfl, rfl⟩ (q0 := 0) rfl rfl rfl rfl rfl rfl (Nat.le_of_ble_eq_true rfl) dX6_itemHere_70 ?_
          refine r_bipush (pc := 73) C 59 dX6_itemHere_73 (by decide) ?_
          refine r_icmp_ne (pc := 75) C 82 dX6_itemHere_75 (by decide) (fun c_19 => ?_) (fun c_19 => ?_)
          · skip
            have hse : seB (σ 5) t (it1 (σ 5) t n S).2.1 = false := se_2 c_19
            refine r_iconst (pc := 82) C 0 dX6_itemHere_82 (by decide) ?_
            refine rc_Vv (pc := 83) C (t_X6_needs' l ad D cs h (su (su (su (su (su (su σ 0 ((it1 (σ 5) t n S).2.2)) 7 (fun _ => nI (tkK (σ 5) t (it1 (σ 5) t n S).2.1))) 8 (fun _ => nI (tkF (σ 5) t (it1 (σ 5) t n S).2.1))) 9 (fun _ => nI (tkT (σ 5) t (it1 (σ 5) t n S).2.1))) 10 (fun _ => tkV (σ 5) t (it1 (σ 5) t n S).2.1)) 11 (fun _ => bI ((it1 (σ 5) t n S).1 = true))) pre post ((it1 (σ 5) t n S).2.2) ((((((su_nn (by decide)).trans (su_nn (by decide))).trans (su_nn (by decide))).trans (su_nn (by decide))).trans (su_nn (by decide))).trans su_at) (σ 5) (((((((su_nn (by decide)).trans (su_nn (by decide))).trans (su_nn (by decide))).trans (su_nn (by decide))).trans (su_nn (by decide))).trans (su_nn (by decide)))) (σ 6) (((((((su_nn (by decide)).trans (su_nn (by decide))).trans (su_nn (by decide))).trans (su_nn (by decide))).trans (su_nn (by decide))).trans (su_nn (by decide)))) (fun _ => nI (tkK (σ 5) t (it1 (σ 5) t n S).2.1)) (((((su_nn (by decide)).trans (su_nn (by decide))).trans (su_nn (by decide))).trans (su_nn (by decide))).trans su_at) (fun _ => nI (tkF (σ 5) t (it1 (σ 5) t n S).2.1)) ((((su_nn (by decide)).trans (su_nn (by decide))).trans (su_nn (by decide))).trans su_at) (fun _ => nI (tkT (σ 5) t (it1 (σ 5) t n S).2.1)) (((su_nn (by decide)).trans (su_nn (by decide))).trans su_at) (fun _ => tkV (σ 5) t (it1 (σ 5) t n S).2.1) ((su_nn (by decide)).trans su_at) (fun _ => bI ((it1 (σ 5) t n S).1 = true)) (su_at) t false (it1 (σ 5) t n S) hT ht hi7 rfl rfl rfl rfl rfl rfl) mv_X6_needs ml_RX6_111 rfl ⟨Nat.le_of_ble_eq_true rfl, Nat.le_of_ble_eq_true rfl⟩ ⟨rfl, rfl⟩ (q0 := 0) rfl rfl rfl rfl rfl rfl (Nat.le_of_ble_eq_true rfl) dX6_itemHere_83 ?_
            refine r_blk (blk' := wM cs h (su (su (su (su (su (su σ 0 ((ndS (σ 5) t false (it1 (σ 5) t n S)).2.2)) 7 (fun _ => nI (tkK (σ 5) t (ndS (σ 5) t false (it1 (σ 5) t n S)).2.1))) 8 (fun _ => nI (tkF (σ 5) t (ndS (σ 5) t false (it1 (σ 5) t n S)).2.1))) 9 (fun _ => nI (tkT (σ 5) t (ndS (σ 5) t false (it1 (σ 5) t n S)).2.1))) 10 (fun _ => tkV (σ 5) t (ndS (σ 5) t false (it1 (σ 5) t n S)).2.1)) 11 (fun _ => bI ((ndS (σ 5) t false (it1 (σ 5) t n S)).1 = true)))) (congrArg (wM cs h) (by rw [su_cm (k := 11) (j := 0) (by decide), su_cm (k := 10) (j := 0) (by decide), su_cm (k := 9) (j := 0) (by decide), su_cm (k := 8) (j := 0) (by decide), su_cm (k := 7) (j := 0) (by decide), su_su (k := 0), su_cm (k := 11) (j := 7) (by decide), su_cm (k := 10) (j := 7) (by decide), su_cm (k := 9) (j := 7) (by decide), su_cm (k := 8) (j := 7) (by decide), su_su (k := 7), su_cm (k := 11) (j := 8) (by decide), su_cm (k := 10) (j := 8) (by decide), su_cm (k := 9) (j := 8) (by decide), su_su (k := 8), su_cm (k := 11) (j := 9) (by decide), su_cm (k := 10) (j := 9) (by decide), su_su (k := 9), su_cm (k := 11) (j := 10) (by decide), su_su (k := 10), su_su (k := 11)])) ?_
            have f_20 : (ndS (σ 5) t false (it1 (σ 5) t n S)).2.1 ≤ t := ndS_le hi7
            exact r_vret (pc := 86) C hr hlk dX6_itemHere_86 (by rw [show itS (σ 5) t n S = ndS (σ 5) t false (it1 (σ 5) t n S) from it_b hse] <;> rfl)
          · skip
            have hse : seB (σ 5) t (it1 (σ 5) t n S).2.1 = true := se_0 hs3 c_19
            refine r_iconst (pc := 78) C 1 dX6_itemHere_78 (by decide) ?_
            refine r_goto (pc := 79) C 83 dX6_itemHere_79 (by decide) ?_
            refine rc_Vv (pc := 83) C (t_X6_needs' l ad D cs h (su (su (su (su (su (su σ 0 ((it1 (σ 5) t n S).2.2)) 7 (fun _ => nI (tkK (σ 5) t (it1 (σ 5) t n S).2.1))) 8 (fun _ => nI (tkF (σ 5) t (it1 (σ 5) t n S).2.1))) 9 (fun _ => nI (tkT (σ 5) t (it1 (σ 5) t n S).2.1))) 10 (fun _ => tkV (σ 5) t (it1 (σ 5) t n S).2.1)) 11 (fun _ => bI ((it1 (σ 5) t n S).1 = true))) pre post ((it1 (σ 5) t n S).2.2) ((((((su_nn (by decide)).trans (su_nn (by decide))).trans (su_nn (by decide))).trans (su_nn (by decide))).trans (su_nn (by decide))).trans su_at) (σ 5) (((((((su_nn (by decide)).trans (su_nn (by decide))).trans (su_nn (by decide))).trans (su_nn (by decide))).trans (su_nn (by decide))).trans (su_nn (by decide)))) (σ 6) (((((((su_nn (by decide)).trans (su_nn (by decide))).trans (su_nn (by decide))).trans (su_nn (by decide))).trans (su_nn (by decide))).trans (su_nn (by decide)))) (fun _ => nI (tkK (σ 5) t (it1 (σ 5) t n S).2.1)) (((((su_nn (by decide)).trans (su_nn (by decide))).trans (su_nn (by decide))).trans (su_nn (by decide))).trans su_at) (fun _ => nI (tkF (σ 5) t (it1 (σ 5) t n S).2.1)) ((((su_nn (by decide)).trans (su_nn (by decide))).trans (su_nn (by decide))).trans su_at) (fun _ => nI (tkT (σ 5) t (it1 (σ 5) t n S).2.1)) (((su_nn (by decide)).trans (su_nn (by decide))).trans su_at) (fun _ => tkV (σ 5) t (it1 (σ 5) t n S).2.1) ((su_nn (by decide)).trans su_at) (fun _ => bI ((it1 (σ 5) t n S).1 = true)) (su_at) t true (it1 (σ 5) t n S) hT ht hi7 rfl rfl rfl rfl rfl rfl) mv_X6_needs ml_RX6_111 rfl ⟨Nat.le_of_ble_eq_true rfl, Nat.le_of_ble_eq_true rfl⟩ ⟨rfl, rfl⟩ (q0 := 0) rfl rfl rfl rfl rfl rfl (Nat.le_of_ble_eq_true rfl) dX6_itemHere_83 ?_
            refine r_blk (blk' := wM cs h (su (su (su (su (su (su σ 0 ((ndS (σ 5) t true (it1 (σ 5) t n S)).2.2)) 7 (fun _ => nI (tkK (σ 5) t (ndS (σ 5) t true (it1 (σ 5) t n S)).2.1))) 8 (fun _ => nI (tkF (σ 5) t (ndS (σ 5) t true (it1 (σ 5) t n S)).2.1))) 9 (fun _ => nI (tkT (σ 5) t (ndS (σ 5) t true (it1 (σ 5) t n S)).2.1))) 10 (fun _ => tkV (σ 5) t (ndS (σ 5) t true (it1 (σ 5) t n S)).2.1)) 11 (fun _ => bI ((ndS (σ 5) t true (it1 (σ 5) t n S)).1 = true)))) (congrArg (wM cs h) (by rw [su_cm (k := 11) (j := 0) (by decide), su_cm (k := 10) (j := 0) (by decide), su_cm (k := 9) (j := 0) (by decide), su_cm (k := 8) (j := 0) (by decide), su_cm (k := 7) (j := 0) (by decide), su_su (k := 0), su_cm (k := 11) (j := 7) (by decide), su_cm (k := 10) (j := 7) (by decide), su_cm (k := 9) (j := 7) (by decide), su_cm (k := 8) (j := 7) (by decide), su_su (k := 7), su_cm (k := 11) (j := 8) (by decide), su_cm (k := 10) (j := 8) (by decide), su_cm (k := 9) (j := 8) (by decide), su_su (k := 8), su_cm (k := 11) (j := 9) (by decide), su_cm (k := 10) (j := 9) (by decide), su_su (k := 9), su_cm (k := 11) (j := 10) (by decide), su_su (k := 10), su_su (k := 11)])) ?_
            have f_21 : (ndS (σ 5) t true (it1 (σ 5) t n S)).2.1 ≤ t := ndS_le hi7
            exact r_vret (pc := 86) C hr hlk dX6_itemHere_86 (by rw [show itS (σ 5) t n S = ndS (σ 5) t true (it1 (σ 5) t n S) from it_b hse] <;> rfl)
  · skip
    refine r_aload_n (pc := 14) C 2 dX6_itemHere_14 rfl rfl ?_
    refine r_iload_n (pc := 15) C 1 dX6_itemHere_15 rfl rfl ?_
    refine rc_Vv (pc := 16) C (t_X6_personHere' l ad D cs h (su (su (su (su (su (su σ 0 S.2.2) 7 (fun _ => nI (tkK (σ 5) t S.2.1))) 8 (fun _ => nI (tkF (σ 5) t S.2.1))) 9 (fun _ => nI (tkT (σ 5) t S.2.1))) 10 (fun _ => tkV (σ 5) t S.2.1)) 11 (fun _ => bI (S.1 = true))) pre post S.2.2 ((((((su_nn (by decide)).trans (su_nn (by decide))).trans (su_nn (by decide))).trans (su_nn (by decide))).trans (su_nn (by decide))).trans su_at) (σ 5) (((((((su_nn (by decide)).trans (su_nn (by decide))).trans (su_nn (by decide))).trans (su_nn (by decide))).trans (su_nn (by decide))).trans (su_nn (by decide)))) (σ 6) (((((((su_nn (by decide)).trans (su_nn (by decide))).trans (su_nn (by decide))).trans (su_nn (by decide))).trans (su_nn (by decide))).trans (su_nn (by decide)))) (fun _ => nI (tkK (σ 5) t S.2.1)) (((((su_nn (by decide)).trans (su_nn (by decide))).trans (su_nn (by decide))).trans (su_nn (by decide))).trans su_at) (fun _ => nI (tkF (σ 5) t S.2.1)) ((((su_nn (by decide)).trans (su_nn (by decide))).trans (su_nn (by decide))).trans su_at) (fun _ => nI (tkT (σ 5) t S.2.1)) (((su_nn (by decide)).trans (su_nn (by decide))).trans su_at) (fun _ => tkV (σ 5) t S.2.1) ((su_nn (by decide)).trans su_at) (fun _ => bI (S.1 = true)) (su_at) t n (kiF (σ 5) t S.2.1) S hT ht hi rfl rfl rfl rfl rfl rfl hN hn) mv_X6_personHere ml_RX6_130 rfl ⟨Nat.le_of_ble_eq_true rfl, Nat.le_of_ble_eq_true rfl⟩ ⟨rfl, rfl⟩ (q0 := 0) rfl rfl rfl rfl rfl rfl (Nat.le_of_ble_eq_true rfl) dX6_itemHere_16 ?_
    refine r_blk (blk' := wM cs h (su (su (su (su (su (su σ 0 ((pnS (σ 5) t n (kiF (σ 5) t S.2.1) S).2.2)) 7 (fun _ => nI (tkK (σ 5) t (pnS (σ 5) t n (kiF (σ 5) t S.2.1) S).2.1))) 8 (fun _ => nI (tkF (σ 5) t (pnS (σ 5) t n (kiF (σ 5) t S.2.1) S).2.1))) 9 (fun _ => nI (tkT (σ 5) t (pnS (σ 5) t n (kiF (σ 5) t S.2.1) S).2.1))) 10 (fun _ => tkV (σ 5) t (pnS (σ 5) t n (kiF (σ 5) t S.2.1) S).2.1)) 11 (fun _ => bI ((pnS (σ 5) t n (kiF (σ 5) t S.2.1) S).1 = true)))) (congrArg (wM cs h) (by rw [su_cm (k := 11) (j := 0) (by decide), su_cm (k := 10) (j := 0) (by decide), su_cm (k := 9) (j := 0) (by decide), su_cm (k := 8) (j := 0) (by decide), su_cm (k := 7) (j := 0) (by decide), su_su (k := 0), su_cm (k := 11) (j := 7) (by decide), su_cm (k := 10) (j := 7) (by decide), su_cm (k := 9) (j := 7) (by decide), su_cm (k := 8) (j := 7) (by decide), su_su (k := 7), su_cm (k := 11) (j := 8) (by decide), su_cm (k := 10) (j := 8) (by decide), su_cm (k := 9) (j := 8) (by decide), su_su (k := 8), su_cm (k := 11) (j := 9) (by decide), su_cm (k := 10) (j := 9) (by decide), su_su (k := 9), su_cm (k := 11) (j := 10) (by decide), su_su (k := 10), su_su (k := 11)])) ?_
    have f_22 : (pnS (σ 5) t n (kiF (σ 5) t S.2.1) S).2.1 ≤ t := pnS_le hi
    refine r_goto (pc := 19) C 56 dX6_itemHere_19 (by decide) ?_
    refine r_blk (blk' := wM cs h (su (su (su (su (su (su σ 0 ((it1 (σ 5) t n S).2.2)) 7 (fun _ => nI (tkK (σ 5) t (it1 (σ 5) t n S).2.1))) 8 (fun _ => nI (tkF (σ 5) t (it1 (σ 5) t n S).2.1))) 9 (fun _ => nI (tkT (σ 5) t (it1 (σ 5) t n S).2.1))) 10 (fun _ => tkV (σ 5) t (it1 (σ 5) t n S).2.1)) 11 (fun _ => bI ((it1 (σ 5) t n S).1 = true)))) (by rw [show (it1 (σ 5) t n S) = (pnS (σ 5) t n (kiF (σ 5) t S.2.1) S) from it_p ‹_›] <;> rfl) ?_
    have hi7 : (it1 (σ 5) t n S).2.1 ≤ t := it1_le hi
    have hf7 := tkF_le (T := σ 5) hi7
    have hk7 := tkK_le (σ 5) t (it1 (σ 5) t n S).2.1
    refine r_aload_n (pc := 56) C 2 dX6_itemHere_56 rfl rfl ?_
    refine r_aload_n (pc := 57) C 2 dX6_itemHere_57 rfl rfl ?_
    refine mg_token (pc := 58) C fl_RX6_84 dX6_itemHere_58 (nI (tkK (σ 5) t (it1 (σ 5) t n S).2.1)) (congrFun (((((su_nn (by decide)).trans (su_nn (by decide))).trans (su_nn (by decide))).trans (su_nn (by decide))).trans su_at) 0) ?_
    refine r_iconst (pc := 61) C 3 dX6_itemHere_61 (by decide) ?_
    refine r_icmp_ne (pc := 62) C 82 dX6_itemHere_62 (by decide) (fun c_23 => ?_) (fun c_23 => ?_)
    · skip
      have c_23 := nIc_ne_t (a := (tkK (σ 5) t (it1 (σ 5) t n S).2.1)) (b := 3) (by omega) (by omega) c_23
      have hse : seB (σ 5) t (it1 (σ 5) t n S).2.1 = false := se_1 c_23
      refine r_iconst (pc := 82) C 0 dX6_itemHere_82 (by decide) ?_
      refine rc_Vv (pc := 83) C (t_X6_needs' l ad D cs h (su (su (su (su (su (su σ 0 ((it1 (σ 5) t n S).2.2)) 7 (fun _ => nI (tkK (σ 5) t (it1 (σ 5) t n S).2.1))) 8 (fun _ => nI (tkF (σ 5) t (it1 (σ 5) t n S).2.1))) 9 (fun _ => nI (tkT (σ 5) t (it1 (σ 5) t n S).2.1))) 10 (fun _ => tkV (σ 5) t (it1 (σ 5) t n S).2.1)) 11 (fun _ => bI ((it1 (σ 5) t n S).1 = true))) pre post ((it1 (σ 5) t n S).2.2) ((((((su_nn (by decide)).trans (su_nn (by decide))).trans (su_nn (by decide))).trans (su_nn (by decide))).trans (su_nn (by decide))).trans su_at) (σ 5) (((((((su_nn (by decide)).trans (su_nn (by decide))).trans (su_nn (by decide))).trans (su_nn (by decide))).trans (su_nn (by decide))).trans (su_nn (by decide)))) (σ 6) (((((((su_nn (by decide)).trans (su_nn (by decide))).trans (su_nn (by decide))).trans (su_nn (by decide))).trans (su_nn (by decide))).trans (su_nn (by decide)))) (fun _ => nI (tkK (σ 5) t (it1 (σ 5) t n S).2.1)) (((((su_nn (by decide)).trans (su_nn (by decide))).trans (su_nn (by decide))).trans (su_nn (by decide))).trans su_at) (fun _ => nI (tkF (σ 5) t (it1 (σ 5) t n S).2.1)) ((((su_nn (by decide)).trans (su_nn (by decide))).trans (su_nn (by decide))).trans su_at) (fun _ => nI (tkT (σ 5) t (it1 (σ 5) t n S).2.1)) (((su_nn (by decide)).trans (su_nn (by decide))).trans su_at) (fun _ => tkV (σ 5) t (it1 (σ 5) t n S).2.1) ((su_nn (by decide)).trans su_at) (fun _ => bI ((it1 (σ 5) t n S).1 = true)) (su_at) t false (it1 (σ 5) t n S) hT ht hi7 rfl rfl rfl rfl rfl rfl) mv_X6_needs ml_RX6_111 rfl ⟨Nat.le_of_ble_eq_true rfl, Nat.le_of_ble_eq_true rfl⟩ ⟨rfl, rfl⟩ (q0 := 0) rfl rfl rfl rfl rfl rfl (Nat.le_of_ble_eq_true rfl) dX6_itemHere_83 ?_
      refine r_blk (blk' := wM cs h (su (su (su (su (su (su σ 0 ((ndS (σ 5) t false (it1 (σ 5) t n S)).2.2)) 7 (fun _ => nI (tkK (σ 5) t (ndS (σ 5) t false (it1 (σ 5) t n S)).2.1))) 8 (fun _ => nI (tkF (σ 5) t (ndS (σ 5) t false (it1 (σ 5) t n S)).2.1))) 9 (fun _ => nI (tkT (σ 5) t (ndS (σ 5) t false (it1 (σ 5) t n S)).2.1))) 10 (fun _ => tkV (σ 5) t (ndS (σ 5) t false (it1 (σ 5) t n S)).2.1)) 11 (fun _ => bI ((ndS (σ 5) t false (it1 (σ 5) t n S)).1 = true)))) (congrArg (wM cs h) (by rw [su_cm (k := 11) (j := 0) (by decide), su_cm (k := 10) (j := 0) (by decide), su_cm (k := 9) (j := 0) (by decide), su_cm (k := 8) (j := 0) (by decide), su_cm (k := 7) (j := 0) (by decide), su_su (k := 0), su_cm (k := 11) (j := 7) (by decide), su_cm (k := 10) (j := 7) (by decide), su_cm (k := 9) (j := 7) (by decide), su_cm (k := 8) (j := 7) (by decide), su_su (k := 7), su_cm (k := 11) (j := 8) (by decide), su_cm (k := 10) (j := 8) (by decide), su_cm (k := 9) (j := 8) (by decide), su_su (k := 8), su_cm (k := 11) (j := 9) (by decide), su_cm (k := 10) (j := 9) (by decide), su_su (k := 9), su_cm (k := 11) (j := 10) (by decide), su_su (k := 10), su_su (k := 11)])) ?_
      have f_24 : (ndS (σ 5) t false (it1 (σ 5) t n S)).2.1 ≤ t := ndS_le hi7
      exact r_vret (pc := 86) C hr hlk dX6_itemHere_86 (by rw [show itS (σ 5) t n S = ndS (σ 5) t false (it1 (σ 5) t n S) from it_b hse] <;> rfl)
    · skip
      have c_23 := nIc_ne_f (a := (tkK (σ 5) t (it1 (σ 5) t n S).2.1)) (b := 3) (by omega) (by omega) c_23
      have hs3 := c_23
      refine r_aload_n (pc := 65) C 2 dX6_itemHere_65 rfl rfl ?_
      refine r_aload_n (pc := 66) C 2 dX6_itemHere_66 rfl rfl ?_
      refine mg_from (pc := 67) C fl_RX6_70 dX6_itemHere_67 (nI (tkF (σ 5) t (it1 (σ 5) t n S).2.1)) (congrFun ((((su_nn (by decide)).trans (su_nn (by decide))).trans (su_nn (by decide))).trans su_at) 0) ?_
      refine rc_Vi (pc := 70) C (t_X6_byteAt' l ad D cs h (su (su (su (su (su (su σ 0 ((it1 (σ 5) t n S).2.2)) 7 (fun _ => nI (tkK (σ 5) t (it1 (σ 5) t n S).2.1))) 8 (fun _ => nI (tkF (σ 5) t (it1 (σ 5) t n S).2.1))) 9 (fun _ => nI (tkT (σ 5) t (it1 (σ 5) t n S).2.1))) 10 (fun _ => tkV (σ 5) t (it1 (σ 5) t n S).2.1)) 11 (fun _ => bI ((it1 (σ 5) t n S).1 = true))) pre post (σ 5) (((((((su_nn (by decide)).trans (su_nn (by decide))).trans (su_nn (by decide))).trans (su_nn (by decide))).trans (su_nn (by decide))).trans (su_nn (by decide)))) (σ 6) (((((((su_nn (by decide)).trans (su_nn (by decide))).trans (su_nn (by decide))).trans (su_nn (by decide))).trans (su_nn (by decide))).trans (su_nn (by decide)))) t (tkF (σ 5) t (it1 (σ 5) t n S).2.1) hT ht (by omega)) mv_X6_byteAt ml_RX6_73 rfl ⟨Nat.le_of_ble_eq_true rfl, Nat.le_of_ble_eq_true rfl⟩ ⟨rfl, rfl⟩ (q0 := 0) rfl rfl rfl rfl rfl rfl (Nat.le_of_ble_eq_true rfl) dX6_itemHere_70 ?_
      refine r_bipush (pc := 73) C 59 dX6_itemHere_73 (by decide) ?_
      refine r_icmp_ne (pc := 75) C 82 dX6_itemHere_75 (by decide) (fun c_25 => ?_) (fun c_25 => ?_)
      · skip
        have hse : seB (σ 5) t (it1 (σ 5) t n S).2.1 = false := se_2 c_25
        refine r_iconst (pc := 82) C 0 dX6_itemHere_82 (by decide) ?_
        refine rc_Vv (pc := 83) C (t_X6_needs' l ad D cs h (su (su (su (su (su (su σ 0 ((it1 (σ 5) t n S).2.2)) 7 (fun _ => nI (tkK (σ 5) t (it1 (σ 5) t n S).2.1))) 8 (fun _ => nI (tkF (σ 5) t (it1 (σ 5) t n S).2.1))) 9 (fun _ => nI (tkT (σ 5) t (it1 (σ 5) t n S).2.1))) 10 (fun _ => tkV (σ 5) t (it1 (σ 5) t n S).2.1)) 11 (fun _ => bI ((it1 (σ 5) t n S).1 = true))) pre post ((it1 (σ 5) t n S).2.2) ((((((su_nn (by decide)).trans (su_nn (by decide))).trans (su_nn (by decide))).trans (su_nn (by decide))).trans (su_nn (by decide))).trans su_at) (σ 5) (((((((su_nn (by decide)).trans (su_nn (by decide))).trans (su_nn (by decide))).trans (su_nn (by decide))).trans (su_nn (by decide))).trans (su_nn (by decide)))) (σ 6) (((((((su_nn (by decide)).trans (su_nn (by decide))).trans (su_nn (by decide))).trans (su_nn (by decide))).trans (su_nn (by decide))).trans (su_nn (by decide)))) (fun _ => nI (tkK (σ 5) t (it1 (σ 5) t n S).2.1)) (((((su_nn (by decide)).trans (su_nn (by decide))).trans (su_nn (by decide))).trans (su_nn (by decide))).trans su_at) (fun _ => nI (tkF (σ 5) t (it1 (σ 5) t n S).2.1)) ((((su_nn (by decide)).trans (su_nn (by decide))).trans (su_nn (by decide))).trans su_at) (fun _ => nI (tkT (σ 5) t (it1 (σ 5) t n S).2.1)) (((su_nn (by decide)).trans (su_nn (by decide))).trans su_at) (fun _ => tkV (σ 5) t (it1 (σ 5) t n S).2.1) ((su_nn (by decide)).trans su_at) (fun _ => bI ((it1 (σ 5) t n S).1 = true)) (su_at) t false (it1 (σ 5) t n S) hT ht hi7 rfl rfl rfl rfl rfl rfl) mv_X6_needs ml_RX6_111 rfl ⟨Nat.le_of_ble_eq_true rfl, Nat.le_of_ble_eq_true rfl⟩ ⟨rfl, rfl⟩ (q0 := 0) rfl rfl rfl rfl rfl rfl (Nat.le_of_ble_eq_true rfl) dX6_itemHere_83 ?_
        refine r_blk (blk' := wM cs h (su (su (su (su (su (su σ 0 ((ndS (σ 5) t false (it1 (σ 5) t n S)).2.2)) 7 (fun _ => nI (tkK (σ 5) t (ndS (σ 5) t false (it1 (σ 5) t n S)).2.1))) 8 (fun _ => nI (tkF (σ 5) t (ndS (σ 5) t false (it1 (σ 5) t n S)).2.1))) 9 (fun _ => nI (tkT (σ 5) t (ndS (σ 5) t false (it1 (σ 5) t n S)).2.1))) 10 (fun _ => tkV (σ 5) t (ndS (σ 5) t false (it1 (σ 5) t n S)).2.1)) 11 (fun _ => bI ((ndS (σ 5) t false (it1 (σ 5) t n S)).1 = true)))) (congrArg (wM cs h) (by rw [su_cm (k := 11) (j := 0) (by decide), su_cm (k := 10) (j := 0) (by decide), su_cm (k := 9) (j := 0) (by decide), su_cm (k := 8) (j := 0) (by decide), su_cm (k := 7) (j := 0) (by decide), su_su (k := 0), su_cm (k := 11) (j := 7) (by decide), su_cm (k := 10) (j := 7) (by decide), su_cm (k := 9) (j := 7) (by decide), su_cm (k := 8) (j := 7) (by decide), su_su (k := 7), su_cm (k := 11) (j := 8) (by decide), su_cm (k := 10) (j := 8) (by decide), su_cm (k := 9) (j := 8) (by decide), su_su (k := 8), su_cm (k := 11) (j := 9) (by decide), su_cm (k := 10) (j := 9) (by decide), su_su (k := 9), su_cm (k := 11) (j := 10) (by decide), su_su (k := 10), su_su (k := 11)])) ?_
        have f_26 : (ndS (σ 5) t false (it1 (σ 5) t n S)).2.1 ≤ t := ndS_le hi7
        exact r_vret (pc := 86) C hr hlk dX6_itemHere_86 (by rw [show itS (σ 5) t n S = ndS (σ 5) t false (it1 (σ 5) t n S) from it_b hse] <;> rfl)
      · skip
        have hse : seB (σ 5) t (it1 (σ 5) t n S).2.1 = true := se_0 hs3 c_25
        refine r_iconst (pc := 78) C 1 dX6_itemHere_78 (by decide) ?_
        refine r_goto (pc := 79) C 83 dX6_itemHere_79 (by decide) ?_
        refine rc_Vv (pc := 83) C (t_X6_needs' l ad D cs h (su (su (su (su (su (su σ 0 ((it1 (σ 5) t n S).2.2)) 7 (fun _ => nI (tkK (σ 5) t (it1 (σ 5) t n S).2.1))) 8 (fun _ => nI (tkF (σ 5) t (it1 (σ 5) t n S).2.1))) 9 (fun _ => nI (tkT (σ 5) t (it1 (σ 5) t n S).2.1))) 10 (fun _ => tkV (σ 5) t (it1 (σ 5) t n S).2.1)) 11 (fun _ => bI ((it1 (σ 5) t n S).1 = true))) pre post ((it1 (σ 5) t n S).2.2) ((((((su_nn (by decide)).trans (su_nn (by decide))).trans (su_nn (by decide))).trans (su_nn (by decide))).trans (su_nn (by decide))).trans su_at) (σ 5) (((((((su_nn (by decide)).trans (su_nn (by decide))).trans (su_nn (by decide))).trans (su_nn (by decide))).trans (su_nn (by decide))).trans (su_nn (by decide)))) (σ 6) (((((((su_nn (by decide)).trans (su_nn (by decide))).trans (su_nn (by decide))).trans (su_nn (by decide))).trans (su_nn (by decide))).trans (su_nn (by decide)))) (fun _ => nI (tkK (σ 5) t (it1 (σ 5) t n S).2.1)) (((((su_nn (by decide)).trans (su_nn (by decide))).trans (su_nn (by decide))).trans (su_nn (by decide))).trans su_at) (fun _ => nI (tkF (σ 5) t (it1 (σ 5) t n S).2.1)) ((((su_nn (by decide)).trans (su_nn (by decide))).trans (su_nn (by decide))).trans su_at) (fun _ => nI (tkT (σ 5) t (it1 (σ 5) t n S).2.1)) (((su_nn (by decide)).trans (su_nn (by decide))).trans su_at) (fun _ => tkV (σ 5) t (it1 (σ 5) t n S).2.1) ((su_nn (by decide)).trans su_at) (fun _ => bI ((it1 (σ 5) t n S).1 = true)) (su_at) t true (it1 (σ 5) t n S) hT ht hi7 rfl rfl rfl rfl rfl rfl) mv_X6_needs ml_RX6_111 rfl ⟨Nat.le_of_ble_eq_true rfl, Nat.le_of_ble_eq_true rfl⟩ ⟨rfl, rfl⟩ (q0 := 0) rfl rfl rfl rfl rfl rfl (Nat.le_of_ble_eq_true rfl) dX6_itemHere_83 ?_
        refine r_blk (blk' := wM cs h (su (su (su (su (su (su σ 0 ((ndS (σ 5) t true (it1 (σ 5) t n S)).2.2)) 7 (fun _ => nI (tkK (σ 5) t (ndS (σ 5) t true (it1 (σ 5) t n S)).2.1))) 8 (fun _ => nI (tkF (σ 5) t (ndS (σ 5) t true (it1 (σ 5) t n S)).2.1))) 9 (fun _ => nI (tkT (σ 5) t (ndS (σ 5) t true (it1 (σ 5) t n S)).2.1))) 10 (fun _ => tkV (σ 5) t (ndS (σ 5) t true (it1 (σ 5) t n S)).2.1)) 11 (fun _ => bI ((ndS (σ 5) t true (it1 (σ 5) t n S)).1 = true)))) (congrArg (wM cs h) (by rw [su_cm (k := 11) (j := 0) (by decide), su_cm (k := 10) (j := 0) (by decide), su_cm (k := 9) (j := 0) (by decide), su_cm (k := 8) (j := 0) (by decide), su_cm (k := 7) (j := 0) (by decide), su_su (k := 0), su_cm (k := 11) (j := 7) (by decide), su_cm (k := 10) (j := 7) (by decide), su_cm (k := 9) (j := 7) (by decide), su_cm (k := 8) (j := 7) (by decide), su_su (k := 7), su_cm (k := 11) (j := 8) (by decide), su_cm (k := 10) (j := 8) (by decide), su_cm (k := 9) (j := 8) (by decide), su_su (k := 8), su_cm (k := 11) (j := 9) (by decide), su_cm (k := 10) (j := 9) (by decide), su_su (k := 9), su_cm (k := 11) (j := 10) (by decide), su_su (k := 10), su_su (k := 11)])) ?_
        have f_27 : (ndS (σ 5) t true (it1 (σ 5) t n S)).2.1 ≤ t := ndS_le hi7
        exact r_vret (pc := 86) C hr hlk dX6_itemHere_86 (by rw [show itS (σ 5) t n S = ndS (σ 5) t true (it1 (σ 5) t n S) from it_b hse] <;> rfl)
theorem t_X6_itemHere' (l : Launch) (ad : Nat → Nat) (D : va_G) (cs : Nat → ClassId) (h : Nat → Nat) (σ : Nat → Nat → Int32) (pre post : va_W) (f0_ : Nat → Int32) (e0_ : σ 0 = f0_) (f5_ : Nat → Int32) (e5_ : σ 5 = f5_) (f6_ : Nat → Int32) (e6_ : σ 6 = f6_) (f7_ : Nat → Int32) (e7_ : σ 7 = f7_) (f8_ : Nat → Int32) (e8_ : σ 8 = f8_) (f9_ : Nat → Int32) (e9_ : σ 9 = f9_) (f10_ : Nat → Int32) (e10_ : σ 10 = f10_) (f11_ : Nat → Int32) (e11_ : σ 11 = f11_) (t : Nat) (n : Nat) (S : PS) (hT : f6_ 0 = nI t) (ht : t ≤ 200) (hi : S.2.1 ≤ t) (h0 : f0_ = S.2.2) (h7 : f7_ 0 = nI (tkK (f5_) t S.2.1)) (h8 : f8_ 0 = nI (tkF (f5_) t S.2.1)) (h9 : f9_ 0 = nI (tkT (f5_) t S.2.1)) (h10 : f10_ 0 = tkV (f5_) t S.2.1) (h11 : f11_ 0 = bI (S.1 = true)) (hN : S.2.2 0 = nI n) (hn : n ≤ 8) : CTv l yX6_itemHere cX6_itemHere 3 ({ frames := 6, cells := 0, slots := 0, locals := 131 }) ad D (tysW cs) (pre ++ (wM cs h σ ++ post)) [.ref (h 0)] (pre ++ (wM cs h (su (su (su (su (su (su σ 0 ((itS (f5_) t n S).2.2)) 7 (fun _ => nI (tkK (f5_) t (itS (f5_) t n S).2.1))) 8 (fun _ => nI (tkF (f5_) t (itS (f5_) t n S).2.1))) 9 (fun _ => nI (tkT (f5_) t (itS (f5_) t n S).2.1))) 10 (fun _ => tkV (f5_) t (itS (f5_) t n S).2.1)) 11 (fun _ => bI ((itS (f5_) t n S).1 = true))) ++ post)) := by
  subst e0_; subst e5_; subst e6_; subst e7_; subst e8_; subst e9_; subst e10_; subst e11_
  exact t_X6_itemHere l ad D cs h σ pre post t n S hT ht hi h0 h7 h8 h9 h10 h11 hN hn
theorem dX6_begins_0 : decode cX6_begins 0 = .ok (.aload_n 0, 1) := by decide +kernel
theorem dX6_begins_1 : decode cX6_begins 1 = .ok (.getfield 7, 3) := by decide +kernel
theorem dX6_begins_4 : decode cX6_begins 4 = .ok (.iconst 2, 1) := by decide +kernel
theorem dX6_begins_5 : decode cX6_begins 5 = .ok (.iaload, 1) := by decide +kernel
theorem dX6_begins_6 : decode cX6_begins 6 = .ok (.istore_n 1, 1) := by decide +kernel
theorem dX6_begins_7 : decode cX6_begins 7 = .ok (.iconst 0, 1) := by decide +kernel
theorem dX6_begins_8 : decode cX6_begins 8 = .ok (.istore_n 2, 1) := by decide +kernel
theorem dX6_begins_9 : decode cX6_begins 9 = .ok (.iload_n 2, 1) := by decide +kernel
theorem dX6_begins_10 : decode cX6_begins 10 = .ok (.bipush 48, 2) := by decide +kernel
theorem dX6_begins_12 : decode cX6_begins 12 = .ok (.if_icmp .ge 16, 3) := by decide +kernel
theorem dX6_begins_15 : decode cX6_begins 15 = .ok (.aload_n 0, 1) := by decide +kernel
theorem dX6_begins_16 : decode cX6_begins 16 = .ok (.getfield 7, 3) := by decide +kernel
theorem dX6_begins_19 : decode cX6_begins 19 = .ok (.iload_n 2, 1) := by decide +kernel
theorem dX6_begins_20 : decode cX6_begins 20 = .ok (.iconst 0, 1) := by decide +kernel
theorem dX6_begins_21 : decode cX6_begins 21 = .ok (.iastore, 1) := by decide +kernel
theorem dX6_begins_22 : decode cX6_begins 22 = .ok (.iinc 2 1, 3) := by decide +kernel
theorem dX6_begins_25 : decode cX6_begins 25 = .ok (.goto (-16), 3) := by decide +kernel
theorem dX6_begins_28 : decode cX6_begins 28 = .ok (.aload_n 0, 1) := by decide +kernel
theorem dX6_begins_29 : decode cX6_begins 29 = .ok (.getfield 7, 3) := by decide +kernel
theorem dX6_begins_32 : decode cX6_begins 32 = .ok (.iconst 2, 1) := by decide +kernel
theorem dX6_begins_33 : decode cX6_begins 33 = .ok (.iload_n 1, 1) := by decide +kernel
theorem dX6_begins_34 : decode cX6_begins 34 = .ok (.iastore, 1) := by decide +kernel
theorem dX6_begins_35 : decode cX6_begins 35 = .ok (.aload_n 0, 1) := by decide +kernel
theorem dX6_begins_36 : decode cX6_begins 36 = .ok (.getfield 7, 3) := by decide +kernel
theorem dX6_begins_39 : decode cX6_begins 39 = .ok (.iconst 4, 1) := by decide +kernel
theorem dX6_begins_40 : decode cX6_begins 40 = .ok (.iconst 2, 1) := by decide +kernel
theorem dX6_begins_41 : decode cX6_begins 41 = .ok (.iastore, 1) := by decide +kernel
theorem dX6_begins_42 : decode cX6_begins 42 = .ok (.aload_n 0, 1) := by decide +kernel
theorem dX6_begins_43 : decode cX6_begins 43 = .ok (.getfield 7, 3) := by decide +kernel
theorem dX6_begins_46 : decode cX6_begins 46 = .ok (.iconst 5, 1) := by decide +kernel
theorem dX6_begins_47 : decode cX6_begins 47 = .ok (.iconst 1, 1) := by decide +kernel
theorem dX6_begins_48 : decode cX6_begins 48 = .ok (.iastore, 1) := by decide +kernel
theorem dX6_begins_49 : decode cX6_begins 49 = .ok (.aload_n 0, 1) := by decide +kernel
theorem dX6_begins_50 : decode cX6_begins 50 = .ok (.getfield 7, 3) := by decide +kernel
theorem dX6_begins_53 : decode cX6_begins 53 = .ok (.bipush 7, 2) := by decide +kernel
theorem dX6_begins_55 : decode cX6_begins 55 = .ok (.bipush 20, 2) := by decide +kernel
theorem dX6_begins_57 : decode cX6_begins 57 = .ok (.iastore, 1) := by decide +kernel
theorem dX6_begins_58 : decode cX6_begins 58 = .ok (.return_, 1) := by decide +kernel
set_option maxHeartbeats 400000 in
set_option maxRecDepth 20000 in
theorem t_X6_begins (l : Launch) (ad : Nat → Nat) (D : va_G) (cs : Nat → ClassId) (h : Nat → Nat) (σ : Nat → Nat → Int32) (pre post : va_W)   : CTv l yX6_begins cX6_begins 3 ({ frames := 0, cells := 0, slots := 0, locals := 0 }) ad D (tysW cs) (pre ++ (wM cs h σ ++ post)) [.ref (h 0)] (pre ++ (wM cs h (su σ 0 (bgF (σ 0 2))) ++ post)) := by
  refine CTv.of (lv0 := [(0, .ref (h 0))]) (by decide) rfl (Nat.le_of_ble_eq_true rfl) (fun p e s m args below meth c A C hr hlk => ?_)
  have C : Cx p s m args c cX6_begins 3 RX6 ad D (tysW cs) A := C
  refine r_aload_n (pc := 0) C 0 dX6_begins_0 rfl rfl ?_
  refine mg_s (pc := 1) C fl_RX6_7 dX6_begins_1 ?_
  refine r_iconst (pc := 4) C 2 dX6_begins_4 (by decide) ?_
  refine al_s (pc := 5) C 2 (rfl) (by omega) dX6_begins_5 (σ 0 2) rfl ?_
  refine r_istore_n (pc := 6) C [(1, .int (σ 0 2)), (0, .ref (h 0))] dX6_begins_6 rfl (by decide) rfl ?_
  refine r_iconst (pc := 7) C 0 dX6_begins_7 (by decide) ?_
  refine r_istore_n (pc := 8) C [(2, .int 0), (1, .int (σ 0 2)), (0, .ref (h 0))] dX6_begins_8 rfl (by decide) rfl ?_
  refine r_pick (lv' := [(0, .ref (h 0)), (1, .int (σ 0 2)), (2, .int 0)]) [2, 1, 0] rfl ?_
  refine r_blk (blk' := wM cs h (su σ 0 (cpN (fun _ => 0) (σ 0) 0))) (by rw [show (cpN (fun _ => 0) (σ 0) 0 : Nat → Int32) = σ 0 from Eq.symm (cpN_0)] <;> rfl) ?_
  refine r_loop (blkf := fun i => wM cs h (su σ 0 (cpN (fun _ => 0) (σ 0) i))) (lvf := fun i => [(0, .ref (h 0)), (1, .int (σ 0 2)), (2, .int (nI i))]) (fun i => True) 48 0 (by omega) (trivial) (fun i h_i _ ih => ?_)
  show VX p l e _ s m args below meth c _ D A 3 pre (wM cs h (su σ 0 (cpN (fun _ => 0) (σ 0) i))) post 9 [(0, .ref (h 0)), (1, .int (σ 0 2)), (2, .int (nI i))] []
  refine r_iload_n (pc := 9) C 2 dX6_begins_9 rfl rfl ?_
  refine r_bipush (pc := 10) C 48 dX6_begins_10 (by decide) ?_
  refine r_icmp_ge (pc := 12) C 28 dX6_begins_12 (by decide) (fun c_1 => ?_) (fun c_1 => ?_)
  · skip
    have c_1 := nIc_ge_t (a := i) (b := 48) (by omega) (by omega) c_1
    obtain rfl : i = 48 := by omega
    refine cl_s (fun _ => 0) (fun j hj => cpN_lt (f := fun _ => 0) (g := σ 0) hj) ?_
    refine r_blk (blk' := wM cs h (su σ 0 (fun _ => 0))) (congrArg (wM cs h) (by rw [su_su])) ?_
    refine r_aload_n (pc := 28) C 0 dX6_begins_28 rfl rfl ?_
    refine mg_s (pc := 29) C fl_RX6_7 dX6_begins_29 ?_
    refine r_iconst (pc := 32) C 2 dX6_begins_32 (by decide) ?_
    refine r_iload_n (pc := 33) C 1 dX6_begins_33 rfl rfl ?_
    refine as_s (pc := 34) C 2 (rfl) (by omega) dX6_begins_34 (fun _ => 0) (su_at) ?_
    refine r_blk (blk' := wM cs h (su σ 0 (upd (fun _ => 0) 2 (σ 0 2)))) (congrArg (wM cs h) (by rw [su_su])) ?_
    refine r_aload_n (pc := 35) C 0 dX6_begins_35 rfl rfl ?_
    refine mg_s (pc := 36) C fl_RX6_7 dX6_begins_36 ?_
    refine r_iconst (pc := 39) C 4 dX6_begins_39 (by decide) ?_
    refine r_iconst (pc := 40) C 2 dX6_begins_40 (by decide) ?_
    refine as_s (pc := 41) C 4 (rfl) (by omega) dX6_begins_41 (upd (fun _ => 0) 2 (σ 0 2)) (su_at) ?_
    refine r_blk (blk' := wM cs h (su σ 0 (upd (upd (fun _ => 0) 2 (σ 0 2)) 4 2))) (congrArg (wM cs h) (by rw [su_su])) ?_
    refine r_aload_n (pc := 42) C 0 dX6_begins_42 rfl rfl ?_
    refine mg_s (pc := 43) C fl_RX6_7 dX6_begins_43 ?_
    refine r_iconst (pc := 46) C 5 dX6_begins_46 (by decide) ?_
    refine r_iconst (pc := 47) C 1 dX6_begins_47 (by decide) ?_
    refine as_s (pc := 48) C 5 (rfl) (by omega) dX6_begins_48 (upd (upd (fun _ => 0) 2 (σ 0 2)) 4 2) (su_at) ?_
    refine r_blk (blk' := wM cs h (su σ 0 (upd (upd (upd (fun _ => 0) 2 (σ 0 2)) 4 2) 5 1))) (congrArg (wM cs h) (by rw [su_su])) ?_
    refine r_aload_n (pc := 49) C 0 dX6_begins_49 rfl rfl ?_
    refine mg_s (pc := 50) C fl_RX6_7 dX6_begins_50 ?_
    refine r_bipush (pc := 53) C 7 dX6_begins_53 (by decide) ?_
    refine r_bipush (pc := 55) C 20 dX6_begins_55 (by decide) ?_
    refine as_s (pc := 57) C 7 (rfl) (by omega) dX6_begins_57 (upd (upd (upd (fun _ => 0) 2 (σ 0 2)) 4 2) 5 1) (su_at) ?_
    refine r_blk (blk' := wM cs h (su σ 0 (upd (upd (upd (upd (fun _ => 0) 2 (σ 0 2)) 4 2) 5 1) 7 20))) (congrArg (wM cs h) (by rw [su_su])) ?_
    exact r_vret (pc := 58) C hr hlk dX6_begins_58 rfl
  · skip
    have c_1 := nIc_ge_f (a := i) (b := 48) (by omega) (by omega) c_1
    refine r_aload_n (pc := 15) C 0 dX6_begins_15 rfl rfl ?_
    refine mg_s (pc := 16) C fl_RX6_7 dX6_begins_16 ?_
    refine r_iload_n (pc := 19) C 2 dX6_begins_19 rfl rfl ?_
    refine r_iconst (pc := 20) C 0 dX6_begins_20 (by decide) ?_
    refine as_s (pc := 21) C i (rfl) (by omega) dX6_begins_21 (cpN (fun _ => 0) (σ 0) i) (su_at) ?_
    refine r_blk (blk' := wM cs h (su σ 0 (upd (cpN (fun _ => 0) (σ 0) i) i 0))) (congrArg (wM cs h) (by rw [su_su])) ?_
    refine r_iinc (pc := 22) C (nI (i + 1)) 2 [(2, .int (nI (i + 1))), (0, .ref (h 0)), (1, .int (σ 0 2))] dX6_begins_22 rfl (nI_1 _) (by decide) rfl ?_
    refine r_goto (pc := 25) C 9 dX6_begins_25 (by decide) ?_
    refine r_pick (lv' := [(0, .ref (h 0)), (1, .int (σ 0 2)), (2, .int (nI (i + 1)))]) [1, 2, 0] rfl ?_
    refine r_blk (blk' := wM cs h (su σ 0 (cpN (fun _ => 0) (σ 0) (i + 1)))) (by rw [show (cpN (fun _ => 0) (σ 0) (i + 1) : Nat → Int32) = upd (cpN (fun _ => 0) (σ 0) i) i 0 from Eq.symm ((cpN_s (f := fun _ => 0)))] <;> rfl) ?_
    exact ih (by omega) (trivial)
theorem t_X6_begins' (l : Launch) (ad : Nat → Nat) (D : va_G) (cs : Nat → ClassId) (h : Nat → Nat) (σ : Nat → Nat → Int32) (pre post : va_W) (f0_ : Nat → Int32) (e0_ : σ 0 = f0_)   : CTv l yX6_begins cX6_begins 3 ({ frames := 0, cells := 0, slots := 0, locals := 0 }) ad D (tysW cs) (pre ++ (wM cs h σ ++ post)) [.ref (h 0)] (pre ++ (wM cs h (su σ 0 (bgF (f0_ 2))) ++ post)) := by
  subst e0_
  exact t_X6_begins l ad D cs h σ pre post  
theorem dX6_market_0 : decode cX6_market 0 = .ok (.aload_n 0, 1) := by decide +kernel
theorem dX6_market_1 : decode cX6_market 1 = .ok (.getfield 7, 3) := by decide +kernel
theorem dX6_market_4 : decode cX6_market 4 = .ok (.aload_n 0, 1) := by decide +kernel
theorem dX6_market_5 : decode cX6_market 5 = .ok (.getfield 19, 3) := by decide +kernel
theorem dX6_market_8 : decode cX6_market 8 = .ok (.invokestatic 134, 3) := by decide +kernel
theorem dX6_market_11 : decode cX6_market 11 = .ok (.aload_n 0, 1) := by decide +kernel
theorem dX6_market_12 : decode cX6_market 12 = .ok (.invokevirtual 52, 3) := by decide +kernel
theorem dX6_market_15 : decode cX6_market 15 = .ok (.aload_n 0, 1) := by decide +kernel
theorem dX6_market_16 : decode cX6_market 16 = .ok (.iconst 0, 1) := by decide +kernel
theorem dX6_market_17 : decode cX6_market 17 = .ok (.putfield 67, 3) := by decide +kernel
theorem dX6_market_20 : decode cX6_market 20 = .ok (.aload_n 0, 1) := by decide +kernel
theorem dX6_market_21 : decode cX6_market 21 = .ok (.iconst 0, 1) := by decide +kernel
theorem dX6_market_22 : decode cX6_market 22 = .ok (.putfield 90, 3) := by decide +kernel
theorem dX6_market_25 : decode cX6_market 25 = .ok (.aload_n 0, 1) := by decide +kernel
theorem dX6_market_26 : decode cX6_market 26 = .ok (.invokevirtual 94, 3) := by decide +kernel
theorem dX6_market_29 : decode cX6_market 29 = .ok (.aload_n 0, 1) := by decide +kernel
theorem dX6_market_30 : decode cX6_market 30 = .ok (.getfield 90, 3) := by decide +kernel
theorem dX6_market_33 : decode cX6_market 33 = .ok (.ifCond .ne 17, 3) := by decide +kernel
theorem dX6_market_36 : decode cX6_market 36 = .ok (.aload_n 0, 1) := by decide +kernel
theorem dX6_market_37 : decode cX6_market 37 = .ok (.getfield 84, 3) := by decide +kernel
theorem dX6_market_40 : decode cX6_market 40 = .ok (.ifCond .eq 10, 3) := by decide +kernel
theorem dX6_market_43 : decode cX6_market 43 = .ok (.aload_n 0, 1) := by decide +kernel
theorem dX6_market_44 : decode cX6_market 44 = .ok (.invokevirtual 138, 3) := by decide +kernel
theorem dX6_market_47 : decode cX6_market 47 = .ok (.goto (-18), 3) := by decide +kernel
theorem dX6_market_50 : decode cX6_market 50 = .ok (.aload_n 0, 1) := by decide +kernel
theorem dX6_market_51 : decode cX6_market 51 = .ok (.iconst 0, 1) := by decide +kernel
theorem dX6_market_52 : decode cX6_market 52 = .ok (.putfield 61, 3) := by decide +kernel
theorem dX6_market_55 : decode cX6_market 55 = .ok (.aload_n 0, 1) := by decide +kernel
theorem dX6_market_56 : decode cX6_market 56 = .ok (.getfield 90, 3) := by decide +kernel
theorem dX6_market_59 : decode cX6_market 59 = .ok (.ifCond .eq 22, 3) := by decide +kernel
theorem dX6_market_62 : decode cX6_market 62 = .ok (.aload_n 0, 1) := by decide +kernel
theorem dX6_market_63 : decode cX6_market 63 = .ok (.getfield 19, 3) := by decide +kernel
theorem dX6_market_66 : decode cX6_market 66 = .ok (.aload_n 0, 1) := by decide +kernel
theorem dX6_market_67 : decode cX6_market 67 = .ok (.getfield 7, 3) := by decide +kernel
theorem dX6_market_70 : decode cX6_market 70 = .ok (.invokestatic 134, 3) := by decide +kernel
theorem dX6_market_73 : decode cX6_market 73 = .ok (.bipush (-100), 2) := by decide +kernel
theorem dX6_market_75 : decode cX6_market 75 = .ok (.aload_n 0, 1) := by decide +kernel
theorem dX6_market_76 : decode cX6_market 76 = .ok (.getfield 70, 3) := by decide +kernel
theorem dX6_market_79 : decode cX6_market 79 = .ok (.isub, 1) := by decide +kernel
theorem dX6_market_80 : decode cX6_market 80 = .ok (.ireturn, 1) := by decide +kernel
theorem dX6_market_81 : decode cX6_market 81 = .ok (.aload_n 0, 1) := by decide +kernel
theorem dX6_market_82 : decode cX6_market 82 = .ok (.iconst 0, 1) := by decide +kernel
theorem dX6_market_83 : decode cX6_market 83 = .ok (.putfield 141, 3) := by decide +kernel
theorem dX6_market_86 : decode cX6_market 86 = .ok (.aload_n 0, 1) := by decide +kernel
theorem dX6_market_87 : decode cX6_market 87 = .ok (.getfield 7, 3) := by decide +kernel
theorem dX6_market_90 : decode cX6_market 90 = .ok (.iconst 0, 1) := by decide +kernel
theorem dX6_market_91 : decode cX6_market 91 = .ok (.iaload, 1) := by decide +kernel
theorem dX6_market_92 : decode cX6_market 92 = .ok (.ireturn, 1) := by decide +kernel
set_option maxHeartbeats 400000 in
set_option maxRecDepth 20000 in
theorem t_X6_market (l : Launch) (ad : Nat → Nat) (D : va_G) (cs : Nat → ClassId) (h : Nat → Nat) (σ : Nat → Nat → Int32) (pre post : va_W) (t : Nat) (hT : σ 6 0 = nI t) (ht : t ≤ 200) : CTi l yX6_market cX6_market 1 .int ({ frames := 7, cells := 0, slots := 0, locals := 153 }) ad D (tysW cs) (pre ++ (wM cs h σ ++ post)) [.ref (h 0)] (if (mkS (σ 5) t (σ 0 2)).1 = true then -100 - nI (tkF (σ 5) t (mkS (σ 5) t (σ 0 2)).2.1) else (mkS (σ 5) t (σ 0 2)).2.2 0) (pre ++ (wM cs h (su (su (su (su (su (su (su (su (su σ 0 (if (mkS (σ 5) t (σ 0 2)).1 = true then σ 0 else (mkS (σ 5) t (σ 0 2)).2.2)) 3 (σ 0)) 6 (fun _ => 0)) 7 (fun _ => nI (tkK (σ 5) t (mkS (σ 5) t (σ 0 2)).2.1))) 8 (fun _ => nI (tkF (σ 5) t (mkS (σ 5) t (σ 0 2)).2.1))) 9 (fun _ => nI (tkT (σ 5) t (mkS (σ 5) t (σ 0 2)).2.1))) 10 (fun _ => tkV (σ 5) t (mkS (σ 5) t (σ 0 2)).2.1)) 11 (fun _ => bI ((mkS (σ 5) t (σ 0 2)).1 = true))) 14 (if (mkS (σ 5) t (σ 0 2)).1 = true then σ 14 else fun _ => 0)) ++ post)) := by
  refine CTi.of (lv0 := [(0, .ref (h 0))]) (by decide) rfl (Nat.le_of_ble_eq_true rfl) (fun p e s m args below meth c A C hr hlk => ?_)
  have C : Cx p s m args c cX6_market 1 RX6 ad D (tysW cs) A := C
  refine r_aload_n (pc := 0) C 0 dX6_market_0 rfl rfl ?_
  refine mg_s (pc := 1) C fl_RX6_7 dX6_market_1 ?_
  refine r_aload_n (pc := 4) C 0 dX6_market_4 rfl rfl ?_
  refine mg_before (pc := 5) C fl_RX6_19 dX6_market_5 ?_
  refine rc_Sv (pc := 8) C (t_X6_copyRow_0_3' l ad D cs h σ pre post (σ 0) (rfl)  ) ms_X6_copyRow ml_RX6_134 rfl ⟨Nat.le_of_ble_eq_true rfl, Nat.le_of_ble_eq_true rfl⟩ ⟨rfl, rfl⟩ rfl rfl rfl (Nat.le_of_ble_eq_true rfl) dX6_market_8 ?_
  refine r_aload_n (pc := 11) C 0 dX6_market_11 rfl rfl ?_
  refine rc_Vv (pc := 12) C (t_X6_begins' l ad D cs h (su σ 3 (σ 0)) pre post (σ 0) ((su_nn (by decide)))  ) mv_X6_begins ml_RX6_52 rfl ⟨Nat.le_of_ble_eq_true rfl, Nat.le_of_ble_eq_true rfl⟩ ⟨rfl, rfl⟩ (q0 := 0) rfl rfl rfl rfl rfl rfl (Nat.le_of_ble_eq_true rfl) dX6_market_12 ?_
  refine r_blk (blk' := wM cs h (su (su σ 0 (bgF (σ 0 2))) 3 (σ 0))) (congrArg (wM cs h) (by rw [su_cm (k := 3) (j := 0) (by decide)])) ?_
  refine r_aload_n (pc := 15) C 0 dX6_market_15 rfl rfl ?_
  refine r_iconst (pc := 16) C 0 dX6_market_16 (by decide) ?_
  refine mp_to (pc := 17) C fl_RX6_67 dX6_market_17 ?_
  refine r_aload_n (pc := 20) C 0 dX6_market_20 rfl rfl ?_
  refine r_iconst (pc := 21) C 0 dX6_market_21 (by decide) ?_
  refine mp_isWrong (pc := 22) C fl_RX6_90 dX6_market_22 rfl rfl ?_
  refine r_aload_n (pc := 25) C 0 dX6_market_25 rfl rfl ?_
  refine rc_Vv (pc := 26) C (t_X6_nextToken' l ad D cs h (su (su (su (su σ 0 (bgF (σ 0 2))) 3 (σ 0)) 9 (fun _ => 0)) 11 (fun _ => 0)) pre post (σ 5) (((((su_nn (by decide)).trans (su_nn (by decide))).trans (su_nn (by decide))).trans (su_nn (by decide)))) (σ 6) (((((su_nn (by decide)).trans (su_nn (by decide))).trans (su_nn (by decide))).trans (su_nn (by decide)))) (fun _ => 0) ((su_nn (by decide)).trans su_at) t 0 hT ht rfl (by omega)) mv_X6_nextToken ml_RX6_94 rfl ⟨Nat.le_of_ble_eq_true rfl, Nat.le_of_ble_eq_true rfl⟩ ⟨rfl, rfl⟩ (q0 := 0) rfl rfl rfl rfl rfl rfl (Nat.le_of_ble_eq_true rfl) dX6_market_26 ?_
  refine r_blk (blk' := wM cs h (su (su (su (su (su (su (su σ 0 (bgF (σ 0 2))) 3 (σ 0)) 7 (fun _ => nI (tkK (σ 5) t 0))) 8 (fun _ => nI (tkF (σ 5) t 0))) 9 (fun _ => nI (tkT (σ 5) t 0))) 10 (fun _ => tkV (σ 5) t 0)) 11 (fun _ => 0))) (congrArg (wM cs h) (by rw [su_cm (k := 11) (j := 7) (by decide), su_cm (k := 9) (j := 7) (by decide), su_cm (k := 11) (j := 8) (by decide), su_cm (k := 9) (j := 8) (by decide), su_cm (k := 11) (j := 9) (by decide), su_su (k := 9), su_cm (k := 11) (j := 10) (by decide)])) ?_
  have hT0 : σ 5 = σ 5 := rfl
  refine r_blk (blk' := wM cs h (su (su (su (su (su (su (su σ 0 ((itN (σ 5) t (mk0 (σ 0 2)) 0).2.2)) 3 (σ 0)) 7 (fun _ => nI (tkK (σ 5) t (itN (σ 5) t (mk0 (σ 0 2)) 0).2.1))) 8 (fun _ => nI (tkF (σ 5) t (itN (σ 5) t (mk0 (σ 0 2)) 0).2.1))) 9 (fun _ => nI (tkT (σ 5) t (itN (σ 5) t (mk0 (σ 0 2)) 0).2.1))) 10 (fun _ => tkV (σ 5) t (itN (σ 5) t (mk0 (σ 0 2)) 0).2.1)) 11 (fun _ => bI ((itN (σ 5) t (mk0 (σ 0 2)) 0).1 = true)))) rfl ?_
  refine r_pick (lv' := [(0, .ref (h 0))]) [0] rfl ?_
  refine r_loop (blkf := fun d => wM cs h (su (su (su (su (su (su (su σ 0 ((itN (σ 5) t (mk0 (σ 0 2)) d).2.2)) 3 (σ 0)) 7 (fun _ => nI (tkK (σ 5) t (itN (σ 5) t (mk0 (σ 0 2)) d).2.1))) 8 (fun _ => nI (tkF (σ 5) t (itN (σ 5) t (mk0 (σ 0 2)) d).2.1))) 9 (fun _ => nI (tkT (σ 5) t (itN (σ 5) t (mk0 (σ 0 2)) d).2.1))) 10 (fun _ => tkV (σ 5) t (itN (σ 5) t (mk0 (σ 0 2)) d).2.1)) 11 (fun _ => bI ((itN (σ 5) t (mk0 (σ 0 2)) d).1 = true)))) (lvf := fun d => [(0, .ref (h 0))]) (fun d => MkI (σ 5) t (σ 0 2) d) (t + 1) 0 (by omega) (mk_0) (fun d h_d hx ih => ?_)
  have hi := hx.2.1
  have hk_ := tkK_le (σ 5) t (itN (σ 5) t (mk0 (σ 0 2)) d).2.1
  show VX p l e _ s m args below meth c _ D A 1 pre (wM cs h (su (su (su (su (su (su (su σ 0 ((itN (σ 5) t (mk0 (σ 0 2)) d).2.2)) 3 (σ 0)) 7 (fun _ => nI (tkK (σ 5) t (itN (σ 5) t (mk0 (σ 0 2)) d).2.1))) 8 (fun _ => nI (tkF (σ 5) t (itN (σ 5) t (mk0 (σ 0 2)) d).2.1))) 9 (fun _ => nI (tkT (σ 5) t (itN (σ 5) t (mk0 (σ 0 2)) d).2.1))) 10 (fun _ => tkV (σ 5) t (itN (σ 5) t (mk0 (σ 0 2)) d).2.1)) 11 (fun _ => bI ((itN (σ 5) t (mk0 (σ 0 2)) d).1 = true)))) post 29 [(0, .ref (h 0))] []
  refine r_aload_n (pc := 29) C 0 dX6_market_29 rfl rfl ?_
  refine mg_isWrong (pc := 30) C fl_RX6_90 dX6_market_30 (bI ((itN (σ 5) t (mk0 (σ 0 2)) d).1 = true)) (congrFun (su_at) 0) ?_
  refine r_if_ne (pc := 33) C 50 dX6_market_33 (by decide) (fun c_1 => ?_) (fun c_1 => ?_)
  · skip
    have c_1 := bI_n.mp c_1
    have hfin := mk_w hx c_1
    refine r_blk (blk' := wM cs h (su (su (su (su (su (su (su σ 0 ((mkS (σ 5) t (σ 0 2)).2.2)) 3 (σ 0)) 7 (fun _ => nI (tkK (σ 5) t (mkS (σ 5) t (σ 0 2)).2.1))) 8 (fun _ => nI (tkF (σ 5) t (mkS (σ 5) t (σ 0 2)).2.1))) 9 (fun _ => nI (tkT (σ 5) t (mkS (σ 5) t (σ 0 2)).2.1))) 10 (fun _ => tkV (σ 5) t (mkS (σ 5) t (σ 0 2)).2.1)) 11 (fun _ => bI ((mkS (σ 5) t (σ 0 2)).1 = true)))) (by rw [hfin] <;> rfl) ?_
    rw [hfin] at hi hk_
    have hf_ := tkF_le (T := σ 5) hi
    refine r_aload_n (pc := 50) C 0 dX6_market_50 rfl rfl ?_
    refine r_iconst (pc := 51) C 0 dX6_market_51 (by decide) ?_
    refine mp_taped (pc := 52) C fl_RX6_61 dX6_market_52 ?_
    refine r_blk (blk' := wM cs h (su (su (su (su (su (su (su (su σ 0 ((mkS (σ 5) t (σ 0 2)).2.2)) 3 (σ 0)) 6 (fun _ => 0)) 7 (fun _ => nI (tkK (σ 5) t (mkS (σ 5) t (σ 0 2)).2.1))) 8 (fun _ => nI (tkF (σ 5) t (mkS (σ 5) t (σ 0 2)).2.1))) 9 (fun _ => nI (tkT (σ 5) t (mkS (σ 5) t (σ 0 2)).2.1))) 10 (fun _ => tkV (σ 5) t (mkS (σ 5) t (σ 0 2)).2.1)) 11 (fun _ => bI ((mkS (σ 5) t (σ 0 2)).1 = true)))) (congrArg (wM cs h) (by rw [su_cm (k := 11) (j := 6) (by decide), su_cm (k := 10) (j := 6) (by decide), su_cm (k := 9) (j := 6) (by decide), su_cm (k := 8) (j := 6) (by decide), su_cm (k := 7) (j := 6) (by decide)])) ?_
    refine r_aload_n (pc := 55) C 0 dX6_market_55 rfl rfl ?_
    refine mg_isWrong (pc := 56) C fl_RX6_90 dX6_market_56 (bI ((mkS (σ 5) t (σ 0 2)).1 = true)) (congrFun (su_at) 0) ?_
    refine r_if_eq (pc := 59) C 81 dX6_market_59 (by decide) (fun c_2 => ?_) (fun c_2 => ?_)
    · skip
      have c_2 := bI_0.mp c_2
      have hnw := c_2
      refine r_aload_n (pc := 81) C 0 dX6_market_81 rfl rfl ?_
      refine r_iconst (pc := 82) C 0 dX6_market_82 (by decide) ?_
      refine mp_rowN (pc := 83) C fl_RX6_141 dX6_market_83 ?_
      refine r_aload_n (pc := 86) C 0 dX6_market_86 rfl rfl ?_
      refine mg_s (pc := 87) C fl_RX6_7 dX6_market_87 ?_
      refine r_iconst (pc := 90) C 0 dX6_market_90 (by decide) ?_
      refine al_s (pc := 91) C 0 (rfl) (by omega) dX6_market_91 ((mkS (σ 5) t (σ 0 2)).2.2 0) (congrFun (((((((((su_nn (by decide)).trans (su_nn (by decide))).trans (su_nn (by decide))).trans (su_nn (by decide))).trans (su_nn (by decide))).trans (su_nn (by decide))).trans (su_nn (by decide))).trans (su_nn (by decide))).trans su_at) _) ?_
      exact r_iret (pc := 92) C hr hlk dX6_market_92 rfl (by first | exact (if_pos hnw).symm | exact (if_neg hnw).symm) (by first | (rw [if_pos hnw, if_pos hnw]; done) | (rw [if_neg hnw, if_neg hnw]; done) | (rw [if_pos hnw, if_pos hnw] <;> rfl) | (rw [if_neg hnw, if_neg hnw] <;> rfl))
    · skip
      have c_2 := bI_n.mp c_2
      have hnw := c_2
      refine r_aload_n (pc := 62) C 0 dX6_market_62 rfl rfl ?_
      refine mg_before (pc := 63) C fl_RX6_19 dX6_market_63 ?_
      refine r_aload_n (pc := 66) C 0 dX6_market_66 rfl rfl ?_
      refine mg_s (pc := 67) C fl_RX6_7 dX6_market_67 ?_
      refine rc_Sv (pc := 70) C (t_X6_copyRow_3_0' l ad D cs h (su (su (su (su (su (su (su (su σ 0 ((mkS (σ 5) t (σ 0 2)).2.2)) 3 (σ 0)) 6 (fun _ => 0)) 7 (fun _ => nI (tkK (σ 5) t (mkS (σ 5) t (σ 0 2)).2.1))) 8 (fun _ => nI (tkF (σ 5) t (mkS (σ 5) t (σ 0 2)).2.1))) 9 (fun _ => nI (tkT (σ 5) t (mkS (σ 5) t (σ 0 2)).2.1))) 10 (fun _ => tkV (σ 5) t (mkS (σ 5) t (σ 0 2)).2.1)) 11 (fun _ => bI ((mkS (σ 5) t (σ 0 2)).1 = true))) pre post (σ 0) (((((((su_nn (by decide)).trans (su_nn (by decide))).trans (su_nn (by decide))).trans (su_nn (by decide))).trans (su_nn (by decide))).trans (su_nn (by decide))).trans su_at)  ) ms_X6_copyRow ml_RX6_134 rfl ⟨Nat.le_of_ble_eq_true rfl, Nat.le_of_ble_eq_true rfl⟩ ⟨rfl, rfl⟩ rfl rfl rfl (Nat.le_of_ble_eq_true rfl) dX6_market_70 ?_
      refine r_blk (blk' := wM cs h (su (su (su (su (su (su (su σ 3 (σ 0)) 6 (fun _ => 0)) 7 (fun _ => nI (tkK (σ 5) t (mkS (σ 5) t (σ 0 2)).2.1))) 8 (fun _ => nI (tkF (σ 5) t (mkS (σ 5) t (σ 0 2)).2.1))) 9 (fun _ => nI (tkT (σ 5) t (mkS (σ 5) t (σ 0 2)).2.1))) 10 (fun _ => tkV (σ 5) t (mkS (σ 5) t (σ 0 2)).2.1)) 11 (fun _ => bI ((mkS (σ 5) t (σ 0 2)).1 = true)))) (congrArg (wM cs h) (by rw [su_cm (k := 11) (j := 0) (by decide), su_cm (k := 10) (j := 0) (by decide), su_cm (k := 9) (j := 0) (by decide), su_cm (k := 8) (j := 0) (by decide), su_cm (k := 7) (j := 0) (by decide), su_cm (k := 6) (j := 0) (by decide), su_cm (k := 3) (j := 0) (by decide), su_su (k := 0), su_id (k := 0) (rfl)])) ?_
      refine r_bipush (pc := 73) C (-100) dX6_market_73 (by decide) ?_
      refine r_aload_n (pc := 75) C 0 dX6_market_75 rfl rfl ?_
      refine mg_from (pc := 76) C fl_RX6_70 dX6_market_76 (nI (tkF (σ 5) t (mkS (σ 5) t (σ 0 2)).2.1)) (congrFun ((((su_nn (by decide)).trans (su_nn (by decide))).trans (su_nn (by decide))).trans su_at) 0) ?_
      refine r_isub (pc := 79) C dX6_market_79 ?_
      exact r_iret (pc := 80) C hr hlk dX6_market_80 rfl (by first | exact (if_pos hnw).symm | exact (if_neg hnw).symm) (by first | (rw [if_pos hnw, if_pos hnw]; done) | (rw [if_neg hnw, if_neg hnw]; done) | (rw [if_pos hnw, if_pos hnw] <;> rfl) | (rw [if_neg hnw, if_neg hnw] <;> rfl))
  · skip
    have c_1 := bI_0.mp c_1
    have hw0 : (itN (σ 5) t (mk0 (σ 0 2)) d).1 = false := Bool.not_eq_true _ ▸ c_1
    refine r_aload_n (pc := 36) C 0 dX6_market_36 rfl rfl ?_
    refine mg_token (pc := 37) C fl_RX6_84 dX6_market_37 (nI (tkK (σ 5) t (itN (σ 5) t (mk0 (σ 0 2)) d).2.1)) (congrFun (((((su_nn (by decide)).trans (su_nn (by decide))).trans (su_nn (by decide))).trans (su_nn (by decide))).trans su_at) 0) ?_
    refine r_if_eq (pc := 40) C 50 dX6_market_40 (by decide) (fun c_3 => ?_) (fun c_3 => ?_)
    · skip
      have c_3 := nIc_eq_t (a := (tkK (σ 5) t (itN (σ 5) t (mk0 (σ 0 2)) d).2.1)) (b := 0) (by omega) (by omega) c_3
      have hfin := mk_e hx c_3
      refine r_blk (blk' := wM cs h (su (su (su (su (su (su (su σ 0 ((mkS (σ 5) t (σ 0 2)).2.2)) 3 (σ 0)) 7 (fun _ => nI (tkK (σ 5) t (mkS (σ 5) t (σ 0 2)).2.1))) 8 (fun _ => nI (tkF (σ 5) t (mkS (σ 5) t (σ 0 2)).2.1))) 9 (fun _ => nI (tkT (σ 5) t (mkS (σ 5) t (σ 0 2)).2.1))) 10 (fun _ => tkV (σ 5) t (mkS (σ 5) t (σ 0 2)).2.1)) 11 (fun _ => bI ((mkS (σ 5) t (σ 0 2)).1 = true)))) (by rw [hfin] <;> rfl) ?_
      rw [hfin] at hi hk_
      have hf_ := tkF_le (T := σ 5) hi
      refine r_aload_n (pc := 50) C 0 dX6_market_50 rfl rfl ?_
      refine r_iconst (pc := 51) C 0 dX6_market_51 (by decide) ?_
      refine mp_taped (pc := 52) C fl_RX6_61 dX6_market_52 ?_
      refine r_blk (blk' := wM cs h (su (su (su (su (su (su (su (su σ 0 ((mkS (σ 5) t (σ 0 2)).2.2)) 3 (σ 0)) 6 (fun _ => 0)) 7 (fun _ => nI (tkK (σ 5) t (mkS (σ 5) t (σ 0 2)).2.1))) 8 (fun _ => nI (tkF (σ 5) t (mkS (σ 5) t (σ 0 2)).2.1))) 9 (fun _ => nI (tkT (σ 5) t (mkS (σ 5) t (σ 0 2)).2.1))) 10 (fun _ => tkV (σ 5) t (mkS (σ 5) t (σ 0 2)).2.1)) 11 (fun _ => bI ((mkS (σ 5) t (σ 0 2)).1 = true)))) (congrArg (wM cs h) (by rw [su_cm (k := 11) (j := 6) (by decide), su_cm (k := 10) (j := 6) (by decide), su_cm (k := 9) (j := 6) (by decide), su_cm (k := 8) (j := 6) (by decide), su_cm (k := 7) (j := 6) (by decide)])) ?_
      refine r_aload_n (pc := 55) C 0 dX6_market_55 rfl rfl ?_
      refine mg_isWrong (pc := 56) C fl_RX6_90 dX6_market_56 (bI ((mkS (σ 5) t (σ 0 2)).1 = true)) (congrFun (su_at) 0) ?_
      refine r_if_eq (pc := 59) C 81 dX6_market_59 (by decide) (fun c_4 => ?_) (fun c_4 => ?_)
      · skip
        have c_4 := bI_0.mp c_4
        have hnw := c_4
        refine r_aload_n (pc := 81) C 0 dX6_market_81 rfl rfl ?_
        refine r_iconst (pc := 82) C 0 dX6_market_82 (by decide) ?_
        refine mp_rowN (pc := 83) C fl_RX6_141 dX6_market_83 ?_
        refine r_aload_n (pc := 86) C 0 dX6_market_86 rfl rfl ?_
        refine mg_s (pc := 87) C fl_RX6_7 dX6_market_87 ?_
        refine r_iconst (pc := 90) C 0 dX6_market_90 (by decide) ?_
        refine al_s (pc := 91) C 0 (rfl) (by omega) dX6_market_91 ((mkS (σ 5) t (σ 0 2)).2.2 0) (congrFun (((((((((su_nn (by decide)).trans (su_nn (by decide))).trans (su_nn (by decide))).trans (su_nn (by decide))).trans (su_nn (by decide))).trans (su_nn (by decide))).trans (su_nn (by decide))).trans (su_nn (by decide))).trans su_at) _) ?_
        exact r_iret (pc := 92) C hr hlk dX6_market_92 rfl (by first | exact (if_pos hnw).symm | exact (if_neg hnw).symm) (by first | (rw [if_pos hnw, if_pos hnw]; done) | (rw [if_neg hnw, if_neg hnw]; done) | (rw [if_pos hnw, if_pos hnw] <;> rfl) | (rw [if_neg hnw, if_neg hnw] <;> rfl))
      · skip
        have c_4 := bI_n.mp c_4
        have hnw := c_4
        refine r_aload_n (pc := 62) C 0 dX6_market_62 rfl rfl ?_
        refine mg_before (pc := 63) C fl_RX6_19 dX6_market_63 ?_
        refine r_aload_n (pc := 66) C 0 dX6_market_66 rfl rfl ?_
        refine mg_s (pc := 67) C fl_RX6_7 dX6_market_67 ?_
        refine rc_Sv (pc := 70) C (t_X6_copyRow_3_0' l ad D cs h (su (su (su (su (su (su (su (su σ 0 ((mkS (σ 5) t (σ 0 2)).2.2)) 3 (σ 0)) 6 (fun _ => 0)) 7 (fun _ => nI (tkK (σ 5) t (mkS (σ 5) t (σ 0 2)).2.1))) 8 (fun _ => nI (tkF (σ 5) t (mkS (σ 5) t (σ 0 2)).2.1))) 9 (fun _ => nI (tkT (σ 5) t (mkS (σ 5) t (σ 0 2)).2.1))) 10 (fun _ => tkV (σ 5) t (mkS (σ 5) t (σ 0 2)).2.1)) 11 (fun _ => bI ((mkS (σ 5) t (σ 0 2)).1 = true))) pre post (σ 0) (((((((su_nn (by decide)).trans (su_nn (by decide))).trans (su_nn (by decide))).trans (su_nn (by decide))).trans (su_nn (by decide))).trans (su_nn (by decide))).trans su_at)  ) ms_X6_copyRow ml_RX6_134 rfl ⟨Nat.le_of_ble_eq_true rfl, Nat.le_of_ble_eq_true rfl⟩ ⟨rfl, rfl⟩ rfl rfl rfl (Nat.le_of_ble_eq_true rfl) dX6_market_70 ?_
        refine r_blk (blk' := wM cs h (su (su (su (su (su (su (su σ 3 (σ 0)) 6 (fun _ => 0)) 7 (fun _ => nI (tkK (σ 5) t (mkS (σ 5) t (σ 0 2)).2.1))) 8 (fun _ => nI (tkF (σ 5) t (mkS (σ 5) t (σ 0 2)).2.1))) 9 (fun _ => nI (tkT (σ 5) t (mkS (σ 5) t (σ 0 2)).2.1))) 10 (fun _ => tkV (σ 5) t (mkS (σ 5) t (σ 0 2)).2.1)) 11 (fun _ => bI ((mkS (σ 5) t (σ 0 2)).1 = true)))) (congrArg (wM cs h) (by rw [su_cm (k := 11) (j := 0) (by decide), su_cm (k := 10) (j := 0) (by decide), su_cm (k := 9) (j := 0) (by decide), su_cm (k := 8) (j := 0) (by decide), su_cm (k := 7) (j := 0) (by decide), su_cm (k := 6) (j := 0) (by decide), su_cm (k := 3) (j := 0) (by decide), su_su (k := 0), su_id (k := 0) (rfl)])) ?_
        refine r_bipush (pc := 73) C (-100) dX6_market_73 (by decide) ?_
        refine r_aload_n (pc := 75) C 0 dX6_market_75 rfl rfl ?_
        refine mg_from (pc := 76) C fl_RX6_70 dX6_market_76 (nI (tkF (σ 5) t (mkS (σ 5) t (σ 0 2)).2.1)) (congrFun ((((su_nn (by decide)).trans (su_nn (by decide))).trans (su_nn (by decide))).trans su_at) 0) ?_
        refine r_isub (pc := 79) C dX6_market_79 ?_
        exact r_iret (pc := 80) C hr hlk dX6_market_80 rfl (by first | exact (if_pos hnw).symm | exact (if_neg hnw).symm) (by first | (rw [if_pos hnw, if_pos hnw]; done) | (rw [if_neg hnw, if_neg hnw]; done) | (rw [if_pos hnw, if_pos hnw] <;> rfl) | (rw [if_neg hnw, if_neg hnw] <;> rfl))
    · skip
      have c_3 := nIc_eq_f (a := (tkK (σ 5) t (itN (σ 5) t (mk0 (σ 0 2)) d).2.1)) (b := 0) (by omega) (by omega) c_3
      have hk0 := c_3
      have hd_ := mk_lt hx hw0 hk0
      obtain ⟨n, hn, hN⟩ := hx.2.2.2
      refine r_aload_n (pc := 43) C 0 dX6_market_43 rfl rfl ?_
      refine rc_Vv (pc := 44) C (t_X6_itemHere' l ad D cs h (su (su (su (su (su (su (su σ 0 ((itN (σ 5) t (mk0 (σ 0 2)) d).2.2)) 3 (σ 0)) 7 (fun _ => nI (tkK (σ 5) t (itN (σ 5) t (mk0 (σ 0 2)) d).2.1))) 8 (fun _ => nI (tkF (σ 5) t (itN (σ 5) t (mk0 (σ 0 2)) d).2.1))) 9 (fun _ => nI (tkT (σ 5) t (itN (σ 5) t (mk0 (σ 0 2)) d).2.1))) 10 (fun _ => tkV (σ 5) t (itN (σ 5) t (mk0 (σ 0 2)) d).2.1)) 11 (fun _ => bI ((itN (σ 5) t (mk0 (σ 0 2)) d).1 = true))) pre post ((itN (σ 5) t (mk0 (σ 0 2)) d).2.2) (((((((su_nn (by decide)).trans (su_nn (by decide))).trans (su_nn (by decide))).trans (su_nn (by decide))).trans (su_nn (by decide))).trans (su_nn (by decide))).trans su_at) (σ 5) ((((((((su_nn (by decide)).trans (su_nn (by decide))).trans (su_nn (by decide))).trans (su_nn (by decide))).trans (su_nn (by decide))).trans (su_nn (by decide))).trans (su_nn (by decide)))) (σ 6) ((((((((su_nn (by decide)).trans (su_nn (by decide))).trans (su_nn (by decide))).trans (su_nn (by decide))).trans (su_nn (by decide))).trans (su_nn (by decide))).trans (su_nn (by decide)))) (fun _ => nI (tkK (σ 5) t (itN (σ 5) t (mk0 (σ 0 2)) d).2.1)) (((((su_nn (by decide)).trans (su_nn (by decide))).trans (su_nn (by decide))).trans (su_nn (by decide))).trans su_at) (fun _ => nI (tkF (σ 5) t (itN (σ 5) t (mk0 (σ 0 2)) d).2.1)) ((((su_nn (by decide)).trans (su_nn (by decide))).trans (su_nn (by decide))).trans su_at) (fun _ => nI (tkT (σ 5) t (itN (σ 5) t (mk0 (σ 0 2)) d).2.1)) (((su_nn (by decide)).trans (su_nn (by decide))).trans su_at) (fun _ => tkV (σ 5) t (itN (σ 5) t (mk0 (σ 0 2)) d).2.1) ((su_nn (by decide)).trans su_at) (fun _ => bI ((itN (σ 5) t (mk0 (σ 0 2)) d).1 = true)) (su_at) t n (itN (σ 5) t (mk0 (σ 0 2)) d) hT ht hi rfl rfl rfl rfl rfl rfl hN hn) mv_X6_itemHere ml_RX6_138 rfl ⟨Nat.le_of_ble_eq_true rfl, Nat.le_of_ble_eq_true rfl⟩ ⟨rfl, rfl⟩ (q0 := 0) rfl rfl rfl rfl rfl rfl (Nat.le_of_ble_eq_true rfl) dX6_market_44 ?_
      refine r_blk (blk' := wM cs h (su (su (su (su (su (su (su σ 0 ((itS (σ 5) t n (itN (σ 5) t (mk0 (σ 0 2)) d)).2.2)) 3 (σ 0)) 7 (fun _ => nI (tkK (σ 5) t (itS (σ 5) t n (itN (σ 5) t (mk0 (σ 0 2)) d)).2.1))) 8 (fun _ => nI (tkF (σ 5) t (itS (σ 5) t n (itN (σ 5) t (mk0 (σ 0 2)) d)).2.1))) 9 (fun _ => nI (tkT (σ 5) t (itS (σ 5) t n (itN (σ 5) t (mk0 (σ 0 2)) d)).2.1))) 10 (fun _ => tkV (σ 5) t (itS (σ 5) t n (itN (σ 5) t (mk0 (σ 0 2)) d)).2.1)) 11 (fun _ => bI ((itS (σ 5) t n (itN (σ 5) t (mk0 (σ 0 2)) d)).1 = true)))) (congrArg (wM cs h) (by rw [su_cm (k := 11) (j := 0) (by decide), su_cm (k := 10) (j := 0) (by decide), su_cm (k := 9) (j := 0) (by decide), su_cm (k := 8) (j := 0) (by decide), su_cm (k := 7) (j := 0) (by decide), su_cm (k := 3) (j := 0) (by decide), su_su (k := 0), su_cm (k := 11) (j := 7) (by decide), su_cm (k := 10) (j := 7) (by decide), su_cm (k := 9) (j := 7) (by decide), su_cm (k := 8) (j := 7) (by decide), su_su (k := 7), su_cm (k := 11) (j := 8) (by decide), su_cm (k := 10) (j := 8) (by decide), su_cm (k := 9) (j := 8) (by decide), su_su (k := 8), su_cm (k := 11) (j := 9) (by decide), su_cm (k := 10) (j := 9) (by decide), su_su (k := 9), su_cm (k := 11) (j := 10) (by decide), su_su (k := 10), su_su (k := 11)])) ?_
      have f_5 : (itS (σ 5) t n (itN (σ 5) t (mk0 (σ 0 2)) d)).2.1 ≤ t := itS_le hi
      refine r_blk (blk' := wM cs h (su (su (su (su (su (su (su σ 0 ((itN (σ 5) t (mk0 (σ 0 2)) (d + 1)).2.2)) 3 (σ 0)) 7 (fun _ => nI (tkK (σ 5) t (itN (σ 5) t (mk0 (σ 0 2)) (d + 1)).2.1))) 8 (fun _ => nI (tkF (σ 5) t (itN (σ 5) t (mk0 (σ 0 2)) (d + 1)).2.1))) 9 (fun _ => nI (tkT (σ 5) t (itN (σ 5) t (mk0 (σ 0 2)) (d + 1)).2.1))) 10 (fun _ => tkV (σ 5) t (itN (σ 5) t (mk0 (σ 0 2)) (d + 1)).2.1)) 11 (fun _ => bI ((itN (σ 5) t (mk0 (σ 0 2)) (d + 1)).1 = true)))) (by rw [show (itN (σ 5) t (mk0 (σ 0 2)) (d + 1)) = (itS (σ 5) t n (itN (σ 5) t (mk0 (σ 0 2)) d)) from by show itS _ _ ((itN (σ 5) t (mk0 (σ 0 2)) d).2.2 0).toNatClampNeg _ = _; rw [hN, nI_clamp (by omega)]] <;> rfl) ?_
      refine r_goto (pc := 47) C 29 dX6_market_47 (by decide) ?_
      refine r_pick (lv' := [(0, .ref (h 0))]) [0] rfl ?_
      exact ih (by omega) (mk_s hx hw0 hk0)
theorem t_X6_market' (l : Launch) (ad : Nat → Nat) (D : va_G) (cs : Nat → ClassId) (h : Nat → Nat) (σ : Nat → Nat → Int32) (pre post : va_W) (f0_ : Nat → Int32) (e0_ : σ 0 = f0_) (f5_ : Nat → Int32) (e5_ : σ 5 = f5_) (f6_ : Nat → Int32) (e6_ : σ 6 = f6_) (f14_ : Nat → Int32) (e14_ : σ 14 = f14_) (t : Nat) (hT : f6_ 0 = nI t) (ht : t ≤ 200) : CTi l yX6_market cX6_market 1 .int ({ frames := 7, cells := 0, slots := 0, locals := 153 }) ad D (tysW cs) (pre ++ (wM cs h σ ++ post)) [.ref (h 0)] (if (mkS (f5_) t (f0_ 2)).1 = true then -100 - nI (tkF (f5_) t (mkS (f5_) t (f0_ 2)).2.1) else (mkS (f5_) t (f0_ 2)).2.2 0) (pre ++ (wM cs h (su (su (su (su (su (su (su (su (su σ 0 (if (mkS (f5_) t (f0_ 2)).1 = true then f0_ else (mkS (f5_) t (f0_ 2)).2.2)) 3 f0_) 6 (fun _ => 0)) 7 (fun _ => nI (tkK (f5_) t (mkS (f5_) t (f0_ 2)).2.1))) 8 (fun _ => nI (tkF (f5_) t (mkS (f5_) t (f0_ 2)).2.1))) 9 (fun _ => nI (tkT (f5_) t (mkS (f5_) t (f0_ 2)).2.1))) 10 (fun _ => tkV (f5_) t (mkS (f5_) t (f0_ 2)).2.1)) 11 (fun _ => bI ((mkS (f5_) t (f0_ 2)).1 = true))) 14 (if (mkS (f5_) t (f0_ 2)).1 = true then f14_ else fun _ => 0)) ++ post)) := by
  subst e0_; subst e5_; subst e6_; subst e14_
  exact t_X6_market l ad D cs h σ pre post t hT ht
