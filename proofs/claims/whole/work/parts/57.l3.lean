theorem dL_law_986 : decode cL_law 986 = .ok (.aload_n 1, 1) := by decide +kernel
theorem dL_law_987 : decode cL_law 987 = .ok (.aload_n 0, 1) := by decide +kernel
theorem dL_law_988 : decode cL_law 988 = .ok (.iload_n 3, 1) := by decide +kernel
theorem dL_law_989 : decode cL_law 989 = .ok (.iconst 1, 1) := by decide +kernel
theorem dL_law_990 : decode cL_law 990 = .ok (.iadd, 1) := by decide +kernel
theorem dL_law_991 : decode cL_law 991 = .ok (.iaload, 1) := by decide +kernel
theorem dL_law_992 : decode cL_law 992 = .ok (.invokevirtual 117, 3) := by decide +kernel
theorem dL_law_995 : decode cL_law 995 = .ok (.aload_n 2, 1) := by decide +kernel
theorem dL_law_996 : decode cL_law 996 = .ok (.aload_n 0, 1) := by decide +kernel
theorem dL_law_997 : decode cL_law 997 = .ok (.iload_n 3, 1) := by decide +kernel
theorem dL_law_998 : decode cL_law 998 = .ok (.iconst 1, 1) := by decide +kernel
theorem dL_law_999 : decode cL_law 999 = .ok (.iadd, 1) := by decide +kernel
theorem dL_law_1000 : decode cL_law 1000 = .ok (.iaload, 1) := by decide +kernel
theorem dL_law_1001 : decode cL_law 1001 = .ok (.invokevirtual 120, 3) := by decide +kernel
theorem dL_law_1004 : decode cL_law 1004 = .ok (.if_icmp .eq 644, 3) := by decide +kernel
set_option maxHeartbeats 4000000 in
set_option maxRecDepth 20000 in
theorem lo_fair {p : Program} {l : Launch} {e : Env} {s : State} {m : MethodId} {args : Array Value} {below : List Frame} {meth : Method} {c : Code} {Q : State → Prop} {ad : Nat → Nat} {D : va_G} {cs : Nat → ClassId} {A : Nat → Prop} {hx hm : Nat → Nat} {b L : Nat} {xs : Nat → Int32} (C : Cx p s m args c cL_law 4 RL ad D (tysW cs) A) (X : Scr s A b L xs) (hL : L < 2 ^ 31) {σ τ : Nat → Nat → Int32} (h : Rel σ τ) {i : Nat} (hi : i + 4 < L) (k : ∀ σ2 τ2, Rel σ2 τ2 → VN p l e room_1 s m args below meth c Q D A 4 78 1876 (wX cs hx σ2 ++ wM cs hm τ2) 1648 [(3, .int (nI i)), (2, .ref (hm 0)), (1, .ref (hx 0)), (0, .ref b)] []) : VN p l e room_1 s m args below meth c Q D A 4 78 1876 (wX cs hx σ ++ wM cs hm τ) 986 [(3, .int (nI i)), (2, .ref (hm 0)), (1, .ref (hx 0)), (0, .ref b)] [] := by
  obtain ⟨n, rr⟩ := h.row
  have ho := o_fair h rr ((xs (i + 1)))
  refine n_aload_n (pc := 986) C 2 dL_law_986 rfl rfl ?_
  refine n_aload_n (pc := 987) C 3 dL_law_987 rfl rfl ?_
  refine n_iload_n (pc := 988) C 0 dL_law_988 rfl rfl ?_
  refine n_iconst (pc := 989) C (nI 1) dL_law_989 (by decide) ?_
  refine n_iadd (pc := 990) C dL_law_990 ?_
  refine n_sld (pc := 991) C X (i + 1) (nI_add i 1) (by omega) hL dL_law_991 ?_
  refine n_Vi (pc := 992) C (As := [.int (xs (i + 1))]) (rest := []) (b := hx 0) (ci := 5) (q0 := 0) (w' := wX cs hx σ ++ wM cs hm τ) (t_X5_fair l ad D cs hx σ [] (wM cs hm τ) n ((xs (i + 1))) rr.h0 rr.hn rr.rg) mv_X5_fair ml_RL_117 rfl ⟨(Nat.le_of_ble_eq_true rfl), (Nat.le_of_ble_eq_true rfl)⟩ ⟨rfl, rfl⟩ rfl rfl rfl rfl rfl rfl (Nat.le_of_ble_eq_true rfl) dL_law_992 (Nat.le_of_ble_eq_true rfl) (Nat.le_of_ble_eq_true rfl) ?_
  refine n_aload_n (pc := 995) C 1 dL_law_995 rfl rfl ?_
  refine n_aload_n (pc := 996) C 3 dL_law_996 rfl rfl ?_
  refine n_iload_n (pc := 997) C 0 dL_law_997 rfl rfl ?_
  refine n_iconst (pc := 998) C (nI 1) dL_law_998 (by decide) ?_
  refine n_iadd (pc := 999) C dL_law_999 ?_
  refine n_sld (pc := 1000) C X (i + 1) (nI_add i 1) (by omega) hL dL_law_1000 ?_
  refine n_Vi (pc := 1001) C (As := [.int (xs (i + 1))]) (rest := [.int _]) (b := hm 0) (ci := 6) (q0 := 0) (w' := wX cs hx σ ++ wM cs hm τ) (t_X6_fair l ad D cs hm τ (wX cs hx σ) [] n ((xs (i + 1))) rr.h0' rr.hn) mv_X6_fair ml_RL_120 rfl ⟨(Nat.le_of_ble_eq_true rfl), (Nat.le_of_ble_eq_true rfl)⟩ ⟨rfl, rfl⟩ rfl rfl rfl (by rw [List.append_nil]) (by rw [List.append_nil]) rfl (Nat.le_of_ble_eq_true rfl) dL_law_1001 (Nat.le_of_ble_eq_true rfl) (Nat.le_of_ble_eq_true rfl) ?_
  refine n_icmp_eq (pc := 1004) C 1648 dL_law_1004 (by decide) (fun _ => k _ _ ho.2) (fun hne => absurd ho.1 hne)
theorem dL_law_1009 : decode cL_law 1009 = .ok (.aload_n 1, 1) := by decide +kernel
theorem dL_law_1010 : decode cL_law 1010 = .ok (.invokevirtual 121, 3) := by decide +kernel
theorem dL_law_1013 : decode cL_law 1013 = .ok (.aload_n 2, 1) := by decide +kernel
theorem dL_law_1014 : decode cL_law 1014 = .ok (.invokevirtual 124, 3) := by decide +kernel
theorem dL_law_1017 : decode cL_law 1017 = .ok (.if_icmp .eq 631, 3) := by decide +kernel
set_option maxHeartbeats 4000000 in
set_option maxRecDepth 20000 in
theorem lo_paired {p : Program} {l : Launch} {e : Env} {s : State} {m : MethodId} {args : Array Value} {below : List Frame} {meth : Method} {c : Code} {Q : State → Prop} {ad : Nat → Nat} {D : va_G} {cs : Nat → ClassId} {A : Nat → Prop} {hx hm : Nat → Nat} {b L : Nat} {xs : Nat → Int32} (C : Cx p s m args c cL_law 4 RL ad D (tysW cs) A) (X : Scr s A b L xs) (hL : L < 2 ^ 31) {σ τ : Nat → Nat → Int32} (h : Rel σ τ) {i : Nat} (hi : i + 4 < L) (k : ∀ σ2 τ2, Rel σ2 τ2 → VN p l e room_1 s m args below meth c Q D A 4 78 1876 (wX cs hx σ2 ++ wM cs hm τ2) 1648 [(3, .int (nI i)), (2, .ref (hm 0)), (1, .ref (hx 0)), (0, .ref b)] []) : VN p l e room_1 s m args below meth c Q D A 4 78 1876 (wX cs hx σ ++ wM cs hm τ) 1009 [(3, .int (nI i)), (2, .ref (hm 0)), (1, .ref (hx 0)), (0, .ref b)] [] := by
  obtain ⟨n, rr⟩ := h.row
  have ho := o_paired h rr
  refine n_aload_n (pc := 1009) C 2 dL_law_1009 rfl rfl ?_
  refine n_Vi (pc := 1010) C (As := []) (rest := []) (b := hx 0) (ci := 5) (q0 := 0) (w' := wX cs hx (su σ 12 (hpL (σ 0) (σ 12) n)) ++ wM cs hm τ) (t_X5_paired l ad D cs hx σ [] (wM cs hm τ) n rr.h0 rr.hn rr.rg) mv_X5_paired ml_RL_121 rfl ⟨(Nat.le_of_ble_eq_true rfl), (Nat.le_of_ble_eq_true rfl)⟩ ⟨rfl, rfl⟩ rfl rfl rfl rfl rfl rfl (Nat.le_of_ble_eq_true rfl) dL_law_1010 (Nat.le_of_ble_eq_true rfl) (Nat.le_of_ble_eq_true rfl) ?_
  refine n_aload_n (pc := 1013) C 1 dL_law_1013 rfl rfl ?_
  refine n_Vi (pc := 1014) C (As := []) (rest := [.int _]) (b := hm 0) (ci := 6) (q0 := 0) (w' := wX cs hx (su σ 12 (hpL (σ 0) (σ 12) n)) ++ wM cs hm (su τ 12 (dpF (τ 0) n (τ 12) (2 ^ n)))) (t_X6_paired l ad D cs hm τ (wX cs hx (su σ 12 (hpL (σ 0) (σ 12) n))) [] n rr.h0' rr.hn) mv_X6_paired ml_RL_124 rfl ⟨(Nat.le_of_ble_eq_true rfl), (Nat.le_of_ble_eq_true rfl)⟩ ⟨rfl, rfl⟩ rfl rfl rfl (by rw [List.append_nil]) (by rw [List.append_nil]) rfl (Nat.le_of_ble_eq_true rfl) dL_law_1014 (Nat.le_of_ble_eq_true rfl) (Nat.le_of_ble_eq_true rfl) ?_
  refine n_icmp_eq (pc := 1017) C 1648 dL_law_1017 (by decide) (fun _ => k _ _ ho.2) (fun hne => absurd ho.1 hne)
theorem dL_law_1022 : decode cL_law 1022 = .ok (.aload_n 1, 1) := by decide +kernel
theorem dL_law_1023 : decode cL_law 1023 = .ok (.aload_n 0, 1) := by decide +kernel
theorem dL_law_1024 : decode cL_law 1024 = .ok (.iload_n 3, 1) := by decide +kernel
theorem dL_law_1025 : decode cL_law 1025 = .ok (.iconst 1, 1) := by decide +kernel
theorem dL_law_1026 : decode cL_law 1026 = .ok (.iadd, 1) := by decide +kernel
theorem dL_law_1027 : decode cL_law 1027 = .ok (.iaload, 1) := by decide +kernel
theorem dL_law_1028 : decode cL_law 1028 = .ok (.aload_n 0, 1) := by decide +kernel
theorem dL_law_1029 : decode cL_law 1029 = .ok (.iload_n 3, 1) := by decide +kernel
theorem dL_law_1030 : decode cL_law 1030 = .ok (.iconst 2, 1) := by decide +kernel
theorem dL_law_1031 : decode cL_law 1031 = .ok (.iadd, 1) := by decide +kernel
theorem dL_law_1032 : decode cL_law 1032 = .ok (.iaload, 1) := by decide +kernel
theorem dL_law_1033 : decode cL_law 1033 = .ok (.aload_n 0, 1) := by decide +kernel
theorem dL_law_1034 : decode cL_law 1034 = .ok (.iload_n 3, 1) := by decide +kernel
theorem dL_law_1035 : decode cL_law 1035 = .ok (.iconst 3, 1) := by decide +kernel
theorem dL_law_1036 : decode cL_law 1036 = .ok (.iadd, 1) := by decide +kernel
theorem dL_law_1037 : decode cL_law 1037 = .ok (.iaload, 1) := by decide +kernel
theorem dL_law_1038 : decode cL_law 1038 = .ok (.invokevirtual 125, 3) := by decide +kernel
theorem dL_law_1041 : decode cL_law 1041 = .ok (.aload_n 2, 1) := by decide +kernel
theorem dL_law_1042 : decode cL_law 1042 = .ok (.aload_n 0, 1) := by decide +kernel
theorem dL_law_1043 : decode cL_law 1043 = .ok (.iload_n 3, 1) := by decide +kernel
theorem dL_law_1044 : decode cL_law 1044 = .ok (.iconst 1, 1) := by decide +kernel
theorem dL_law_1045 : decode cL_law 1045 = .ok (.iadd, 1) := by decide +kernel
theorem dL_law_1046 : decode cL_law 1046 = .ok (.iaload, 1) := by decide +kernel
theorem dL_law_1047 : decode cL_law 1047 = .ok (.aload_n 0, 1) := by decide +kernel
theorem dL_law_1048 : decode cL_law 1048 = .ok (.iload_n 3, 1) := by decide +kernel
theorem dL_law_1049 : decode cL_law 1049 = .ok (.iconst 2, 1) := by decide +kernel
theorem dL_law_1050 : decode cL_law 1050 = .ok (.iadd, 1) := by decide +kernel
theorem dL_law_1051 : decode cL_law 1051 = .ok (.iaload, 1) := by decide +kernel
theorem dL_law_1052 : decode cL_law 1052 = .ok (.aload_n 0, 1) := by decide +kernel
theorem dL_law_1053 : decode cL_law 1053 = .ok (.iload_n 3, 1) := by decide +kernel
theorem dL_law_1054 : decode cL_law 1054 = .ok (.iconst 3, 1) := by decide +kernel
theorem dL_law_1055 : decode cL_law 1055 = .ok (.iadd, 1) := by decide +kernel
theorem dL_law_1056 : decode cL_law 1056 = .ok (.iaload, 1) := by decide +kernel
theorem dL_law_1057 : decode cL_law 1057 = .ok (.invokevirtual 128, 3) := by decide +kernel
theorem dL_law_1060 : decode cL_law 1060 = .ok (.if_icmp .eq 588, 3) := by decide +kernel
set_option maxHeartbeats 4000000 in
set_option maxRecDepth 20000 in
theorem lo_fits {p : Program} {l : Launch} {e : Env} {s : State} {m : MethodId} {args : Array Value} {below : List Frame} {meth : Method} {c : Code} {Q : State → Prop} {ad : Nat → Nat} {D : va_G} {cs : Nat → ClassId} {A : Nat → Prop} {hx hm : Nat → Nat} {b L : Nat} {xs : Nat → Int32} (C : Cx p s m args c cL_law 4 RL ad D (tysW cs) A) (X : Scr s A b L xs) (hL : L < 2 ^ 31) {σ τ : Nat → Nat → Int32} (h : Rel σ τ) {i : Nat} (hi : i + 4 < L) (k : ∀ σ2 τ2, Rel σ2 τ2 → VN p l e room_1 s m args below meth c Q D A 4 78 1876 (wX cs hx σ2 ++ wM cs hm τ2) 1648 [(3, .int (nI i)), (2, .ref (hm 0)), (1, .ref (hx 0)), (0, .ref b)] []) : VN p l e room_1 s m args below meth c Q D A 4 78 1876 (wX cs hx σ ++ wM cs hm τ) 1022 [(3, .int (nI i)), (2, .ref (hm 0)), (1, .ref (hx 0)), (0, .ref b)] [] := by
  obtain ⟨n, rr⟩ := h.row
  have ho := o_fits h rr ((xs (i + 1))) ((xs (i + 2))) ((xs (i + 3)))
  refine n_aload_n (pc := 1022) C 2 dL_law_1022 rfl rfl ?_
  refine n_aload_n (pc := 1023) C 3 dL_law_1023 rfl rfl ?_
  refine n_iload_n (pc := 1024) C 0 dL_law_1024 rfl rfl ?_
  refine n_iconst (pc := 1025) C (nI 1) dL_law_1025 (by decide) ?_
  refine n_iadd (pc := 1026) C dL_law_1026 ?_
  refine n_sld (pc := 1027) C X (i + 1) (nI_add i 1) (by omega) hL dL_law_1027 ?_
  refine n_aload_n (pc := 1028) C 3 dL_law_1028 rfl rfl ?_
  refine n_iload_n (pc := 1029) C 0 dL_law_1029 rfl rfl ?_
  refine n_iconst (pc := 1030) C (nI 2) dL_law_1030 (by decide) ?_
  refine n_iadd (pc := 1031) C dL_law_1031 ?_
  refine n_sld (pc := 1032) C X (i + 2) (nI_add i 2) (by omega) hL dL_law_1032 ?_
  refine n_aload_n (pc := 1033) C 3 dL_law_1033 rfl rfl ?_
  refine n_iload_n (pc := 1034) C 0 dL_law_1034 rfl rfl ?_
  refine n_iconst (pc := 1035) C (nI 3) dL_law_1035 (by decide) ?_
  refine n_iadd (pc := 1036) C dL_law_1036 ?_
  refine n_sld (pc := 1037) C X (i + 3) (nI_add i 3) (by omega) hL dL_law_1037 ?_
  refine n_Vi (pc := 1038) C (As := [.int (xs (i + 1)), .int (xs (i + 2)), .int (xs (i + 3))]) (rest := []) (b := hx 0) (ci := 5) (q0 := 0) (w' := wX cs hx (su σ 2 (gateF ((inB ((xs (i + 1))) 0 3 && (oneB n ((xs (i + 2))) && inB ((xs (i + 3))) 0 1)) && decide (0 ≤ σ 15 ((xs (i + 1))).toNatClampNeg)) ((itT (fun k_ => daysF n (upd (σ 0) (8 + 5 * ((xs (i + 2))).toNatClampNeg + 3) (nI (99 - k_))) (tdI (tdP n (upd (σ 0) (8 + 5 * ((xs (i + 2))).toNatClampNeg + 3) (nI (99 - k_))) (σ 17) ((xs (i + 2))).toNatClampNeg ((xs (i + 1))).toNatClampNeg) 0 (σ 16 ((xs (i + 1))).toNatClampNeg).toNatClampNeg)) (σ 2)) 100) (σ 2))) ++ wM cs hm τ) (t_X5_fits l ad D cs hx σ [] (wM cs hm τ) n ((xs (i + 1))) ((xs (i + 2))) ((xs (i + 3))) rr.h0 rr.hn rr.rg h.siz h.sor) mv_X5_fits ml_RL_125 rfl ⟨(Nat.le_of_ble_eq_true rfl), (Nat.le_of_ble_eq_true rfl)⟩ ⟨rfl, rfl⟩ rfl rfl rfl rfl rfl rfl (Nat.le_of_ble_eq_true rfl) dL_law_1038 (Nat.le_of_ble_eq_true rfl) (Nat.le_of_ble_eq_true rfl) ?_
  refine n_aload_n (pc := 1041) C 1 dL_law_1041 rfl rfl ?_
  refine n_aload_n (pc := 1042) C 3 dL_law_1042 rfl rfl ?_
  refine n_iload_n (pc := 1043) C 0 dL_law_1043 rfl rfl ?_
  refine n_iconst (pc := 1044) C (nI 1) dL_law_1044 (by decide) ?_
  refine n_iadd (pc := 1045) C dL_law_1045 ?_
  refine n_sld (pc := 1046) C X (i + 1) (nI_add i 1) (by omega) hL dL_law_1046 ?_
  refine n_aload_n (pc := 1047) C 3 dL_law_1047 rfl rfl ?_
  refine n_iload_n (pc := 1048) C 0 dL_law_1048 rfl rfl ?_
  refine n_iconst (pc := 1049) C (nI 2) dL_law_1049 (by decide) ?_
  refine n_iadd (pc := 1050) C dL_law_1050 ?_
  refine n_sld (pc := 1051) C X (i + 2) (nI_add i 2) (by omega) hL dL_law_1051 ?_
  refine n_aload_n (pc := 1052) C 3 dL_law_1052 rfl rfl ?_
  refine n_iload_n (pc := 1053) C 0 dL_law_1053 rfl rfl ?_
  refine n_iconst (pc := 1054) C (nI 3) dL_law_1054 (by decide) ?_
  refine n_iadd (pc := 1055) C dL_law_1055 ?_
  refine n_sld (pc := 1056) C X (i + 3) (nI_add i 3) (by omega) hL dL_law_1056 ?_
  refine n_Vi (pc := 1057) C (As := [.int (xs (i + 1)), .int (xs (i + 2)), .int (xs (i + 3))]) (rest := [.int _]) (b := hm 0) (ci := 6) (q0 := 0) (w' := wX cs hx (su σ 2 (gateF ((inB ((xs (i + 1))) 0 3 && (oneB n ((xs (i + 2))) && inB ((xs (i + 3))) 0 1)) && decide (0 ≤ σ 15 ((xs (i + 1))).toNatClampNeg)) ((itT (fun k_ => daysF n (upd (σ 0) (8 + 5 * ((xs (i + 2))).toNatClampNeg + 3) (nI (99 - k_))) (tdI (tdP n (upd (σ 0) (8 + 5 * ((xs (i + 2))).toNatClampNeg + 3) (nI (99 - k_))) (σ 17) ((xs (i + 2))).toNatClampNeg ((xs (i + 1))).toNatClampNeg) 0 (σ 16 ((xs (i + 1))).toNatClampNeg).toNatClampNeg)) (σ 2)) 100) (σ 2))) ++ wM cs hm (su τ 2 (gateF ((inB ((xs (i + 1))) 0 3 && (oneB n ((xs (i + 2))) && inB ((xs (i + 3))) 0 1)) && decide (0 ≤ τ 15 ((xs (i + 1))).toNatClampNeg)) (fbA (τ 0) (τ 2) (8 + 5 * ((xs (i + 2))).toNatClampNeg + 3) 100) (τ 2)))) (t_X6_fits l ad D cs hm τ (wX cs hx (su σ 2 (gateF ((inB ((xs (i + 1))) 0 3 && (oneB n ((xs (i + 2))) && inB ((xs (i + 3))) 0 1)) && decide (0 ≤ σ 15 ((xs (i + 1))).toNatClampNeg)) ((itT (fun k_ => daysF n (upd (σ 0) (8 + 5 * ((xs (i + 2))).toNatClampNeg + 3) (nI (99 - k_))) (tdI (tdP n (upd (σ 0) (8 + 5 * ((xs (i + 2))).toNatClampNeg + 3) (nI (99 - k_))) (σ 17) ((xs (i + 2))).toNatClampNeg ((xs (i + 1))).toNatClampNeg) 0 (σ 16 ((xs (i + 1))).toNatClampNeg).toNatClampNeg)) (σ 2)) 100) (σ 2)))) [] n ((xs (i + 1))) ((xs (i + 2))) ((xs (i + 3))) rr.h0' rr.hn (by rw [← h.si]; exact h.siz)) mv_X6_fits ml_RL_128 rfl ⟨(Nat.le_of_ble_eq_true rfl), (Nat.le_of_ble_eq_true rfl)⟩ ⟨rfl, rfl⟩ rfl rfl rfl (by rw [List.append_nil]) (by rw [List.append_nil]) rfl (Nat.le_of_ble_eq_true rfl) dL_law_1057 (Nat.le_of_ble_eq_true rfl) (Nat.le_of_ble_eq_true rfl) ?_
  refine n_icmp_eq (pc := 1060) C 1648 dL_law_1060 (by decide) (fun _ => k _ _ ho.2) (fun hne => absurd ho.1 hne)
theorem dL_law_1065 : decode cL_law 1065 = .ok (.aload_n 1, 1) := by decide +kernel
theorem dL_law_1066 : decode cL_law 1066 = .ok (.aload_n 0, 1) := by decide +kernel
theorem dL_law_1067 : decode cL_law 1067 = .ok (.iload_n 3, 1) := by decide +kernel
theorem dL_law_1068 : decode cL_law 1068 = .ok (.iconst 1, 1) := by decide +kernel
theorem dL_law_1069 : decode cL_law 1069 = .ok (.iadd, 1) := by decide +kernel
theorem dL_law_1070 : decode cL_law 1070 = .ok (.iaload, 1) := by decide +kernel
theorem dL_law_1071 : decode cL_law 1071 = .ok (.aload_n 0, 1) := by decide +kernel
theorem dL_law_1072 : decode cL_law 1072 = .ok (.iload_n 3, 1) := by decide +kernel
theorem dL_law_1073 : decode cL_law 1073 = .ok (.iconst 2, 1) := by decide +kernel
theorem dL_law_1074 : decode cL_law 1074 = .ok (.iadd, 1) := by decide +kernel
theorem dL_law_1075 : decode cL_law 1075 = .ok (.iaload, 1) := by decide +kernel
theorem dL_law_1076 : decode cL_law 1076 = .ok (.aload_n 0, 1) := by decide +kernel
theorem dL_law_1077 : decode cL_law 1077 = .ok (.iload_n 3, 1) := by decide +kernel
theorem dL_law_1078 : decode cL_law 1078 = .ok (.iconst 3, 1) := by decide +kernel
theorem dL_law_1079 : decode cL_law 1079 = .ok (.iadd, 1) := by decide +kernel
theorem dL_law_1080 : decode cL_law 1080 = .ok (.iaload, 1) := by decide +kernel
theorem dL_law_1081 : decode cL_law 1081 = .ok (.invokevirtual 129, 3) := by decide +kernel
theorem dL_law_1084 : decode cL_law 1084 = .ok (.aload_n 2, 1) := by decide +kernel
theorem dL_law_1085 : decode cL_law 1085 = .ok (.aload_n 0, 1) := by decide +kernel
theorem dL_law_1086 : decode cL_law 1086 = .ok (.iload_n 3, 1) := by decide +kernel
theorem dL_law_1087 : decode cL_law 1087 = .ok (.iconst 1, 1) := by decide +kernel
theorem dL_law_1088 : decode cL_law 1088 = .ok (.iadd, 1) := by decide +kernel
theorem dL_law_1089 : decode cL_law 1089 = .ok (.iaload, 1) := by decide +kernel
theorem dL_law_1090 : decode cL_law 1090 = .ok (.aload_n 0, 1) := by decide +kernel
theorem dL_law_1091 : decode cL_law 1091 = .ok (.iload_n 3, 1) := by decide +kernel
theorem dL_law_1092 : decode cL_law 1092 = .ok (.iconst 2, 1) := by decide +kernel
theorem dL_law_1093 : decode cL_law 1093 = .ok (.iadd, 1) := by decide +kernel
theorem dL_law_1094 : decode cL_law 1094 = .ok (.iaload, 1) := by decide +kernel
theorem dL_law_1095 : decode cL_law 1095 = .ok (.aload_n 0, 1) := by decide +kernel
theorem dL_law_1096 : decode cL_law 1096 = .ok (.iload_n 3, 1) := by decide +kernel
theorem dL_law_1097 : decode cL_law 1097 = .ok (.iconst 3, 1) := by decide +kernel
theorem dL_law_1098 : decode cL_law 1098 = .ok (.iadd, 1) := by decide +kernel
theorem dL_law_1099 : decode cL_law 1099 = .ok (.iaload, 1) := by decide +kernel
theorem dL_law_1100 : decode cL_law 1100 = .ok (.invokevirtual 133, 3) := by decide +kernel
theorem dL_law_1103 : decode cL_law 1103 = .ok (.lcmp, 1) := by decide +kernel
theorem dL_law_1104 : decode cL_law 1104 = .ok (.ifCond .eq 544, 3) := by decide +kernel
set_option maxHeartbeats 4000000 in
set_option maxRecDepth 20000 in
theorem lo_odds {p : Program} {l : Launch} {e : Env} {s : State} {m : MethodId} {args : Array Value} {below : List Frame} {meth : Method} {c : Code} {Q : State → Prop} {ad : Nat → Nat} {D : va_G} {cs : Nat → ClassId} {A : Nat → Prop} {hx hm : Nat → Nat} {b L : Nat} {xs : Nat → Int32} (C : Cx p s m args c cL_law 4 RL ad D (tysW cs) A) (X : Scr s A b L xs) (hL : L < 2 ^ 31) {σ τ : Nat → Nat → Int32} (h : Rel σ τ) {i : Nat} (hi : i + 4 < L) (k : ∀ σ2 τ2, Rel σ2 τ2 → VN p l e room_1 s m args below meth c Q D A 4 78 1876 (wX cs hx σ2 ++ wM cs hm τ2) 1648 [(3, .int (nI i)), (2, .ref (hm 0)), (1, .ref (hx 0)), (0, .ref b)] []) : VN p l e room_1 s m args below meth c Q D A 4 78 1876 (wX cs hx σ ++ wM cs hm τ) 1065 [(3, .int (nI i)), (2, .ref (hm 0)), (1, .ref (hx 0)), (0, .ref b)] [] := by
  obtain ⟨n, rr⟩ := h.row
  obtain ⟨c0, hs, hS5, hS6⟩ := rr.r7
  have ho := o_odds h rr hs hS5 hS6 ((xs (i + 1))) ((xs (i + 2))) ((xs (i + 3)))
  refine n_aload_n (pc := 1065) C 2 dL_law_1065 rfl rfl ?_
  refine n_aload_n (pc := 1066) C 3 dL_law_1066 rfl rfl ?_
  refine n_iload_n (pc := 1067) C 0 dL_law_1067 rfl rfl ?_
  refine n_iconst (pc := 1068) C (nI 1) dL_law_1068 (by decide) ?_
  refine n_iadd (pc := 1069) C dL_law_1069 ?_
  refine n_sld (pc := 1070) C X (i + 1) (nI_add i 1) (by omega) hL dL_law_1070 ?_
  refine n_aload_n (pc := 1071) C 3 dL_law_1071 rfl rfl ?_
  refine n_iload_n (pc := 1072) C 0 dL_law_1072 rfl rfl ?_
  refine n_iconst (pc := 1073) C (nI 2) dL_law_1073 (by decide) ?_
  refine n_iadd (pc := 1074) C dL_law_1074 ?_
  refine n_sld (pc := 1075) C X (i + 2) (nI_add i 2) (by omega) hL dL_law_1075 ?_
  refine n_aload_n (pc := 1076) C 3 dL_law_1076 rfl rfl ?_
  refine n_iload_n (pc := 1077) C 0 dL_law_1077 rfl rfl ?_
  refine n_iconst (pc := 1078) C (nI 3) dL_law_1078 (by decide) ?_
  refine n_iadd (pc := 1079) C dL_law_1079 ?_
  refine n_sld (pc := 1080) C X (i + 3) (nI_add i 3) (by omega) hL dL_law_1080 ?_
  refine n_Vl (pc := 1081) C (As := [.int (xs (i + 1)), .int (xs (i + 2)), .int (xs (i + 3))]) (rest := []) (b := hx 0) (ci := 5) (q0 := 0) (w' := wX cs hx σ ++ wM cs hm τ) (t_X5_odds l ad D cs hx σ [] (wM cs hm τ) n c0 ((xs (i + 1))) ((xs (i + 2))) ((xs (i + 3))) rr.h0 rr.hn hS5 hs) mv_X5_odds ml_RL_129 rfl ⟨(Nat.le_of_ble_eq_true rfl), (Nat.le_of_ble_eq_true rfl)⟩ ⟨rfl, rfl⟩ rfl rfl rfl rfl rfl rfl (Nat.le_of_ble_eq_true rfl) dL_law_1081 (Nat.le_of_ble_eq_true rfl) (Nat.le_of_ble_eq_true rfl) ?_
  refine n_aload_n (pc := 1084) C 1 dL_law_1084 rfl rfl ?_
  refine n_aload_n (pc := 1085) C 3 dL_law_1085 rfl rfl ?_
  refine n_iload_n (pc := 1086) C 0 dL_law_1086 rfl rfl ?_
  refine n_iconst (pc := 1087) C (nI 1) dL_law_1087 (by decide) ?_
  refine n_iadd (pc := 1088) C dL_law_1088 ?_
  refine n_sld (pc := 1089) C X (i + 1) (nI_add i 1) (by omega) hL dL_law_1089 ?_
  refine n_aload_n (pc := 1090) C 3 dL_law_1090 rfl rfl ?_
  refine n_iload_n (pc := 1091) C 0 dL_law_1091 rfl rfl ?_
  refine n_iconst (pc := 1092) C (nI 2) dL_law_1092 (by decide) ?_
  refine n_iadd (pc := 1093) C dL_law_1093 ?_
  refine n_sld (pc := 1094) C X (i + 2) (nI_add i 2) (by omega) hL dL_law_1094 ?_
  refine n_aload_n (pc := 1095) C 3 dL_law_1095 rfl rfl ?_
  refine n_iload_n (pc := 1096) C 0 dL_law_1096 rfl rfl ?_
  refine n_iconst (pc := 1097) C (nI 3) dL_law_1097 (by decide) ?_
  refine n_iadd (pc := 1098) C dL_law_1098 ?_
  refine n_sld (pc := 1099) C X (i + 3) (nI_add i 3) (by omega) hL dL_law_1099 ?_
  refine n_Vl (pc := 1100) C (As := [.int (xs (i + 1)), .int (xs (i + 2)), .int (xs (i + 3))]) (rest := [.long _]) (b := hm 0) (ci := 6) (q0 := 0) (w' := wX cs hx σ ++ wM cs hm τ) (t_X6_odds l ad D cs hm τ (wX cs hx σ) [] n c0 ((xs (i + 1))) ((xs (i + 2))) ((xs (i + 3))) rr.h0' rr.hn hS6 hs) mv_X6_odds ml_RL_133 rfl ⟨(Nat.le_of_ble_eq_true rfl), (Nat.le_of_ble_eq_true rfl)⟩ ⟨rfl, rfl⟩ rfl rfl rfl (by rw [List.append_nil]) (by rw [List.append_nil]) rfl (Nat.le_of_ble_eq_true rfl) dL_law_1100 (Nat.le_of_ble_eq_true rfl) (Nat.le_of_ble_eq_true rfl) ?_
  refine n_lcmp (pc := 1103) C dL_law_1103 ?_
  refine n_if_eq (pc := 1104) C 1648 dL_law_1104 (by decide) (fun _ => k _ _ ho.2) (fun hne => absurd ((lg_cmp_eq _ _).mpr ho.1) hne)
theorem dL_law_1109 : decode cL_law 1109 = .ok (.aload_n 1, 1) := by decide +kernel
theorem dL_law_1110 : decode cL_law 1110 = .ok (.aload_n 0, 1) := by decide +kernel
theorem dL_law_1111 : decode cL_law 1111 = .ok (.iload_n 3, 1) := by decide +kernel
theorem dL_law_1112 : decode cL_law 1112 = .ok (.iconst 1, 1) := by decide +kernel
theorem dL_law_1113 : decode cL_law 1113 = .ok (.iadd, 1) := by decide +kernel
theorem dL_law_1114 : decode cL_law 1114 = .ok (.iaload, 1) := by decide +kernel
theorem dL_law_1115 : decode cL_law 1115 = .ok (.aload_n 0, 1) := by decide +kernel
theorem dL_law_1116 : decode cL_law 1116 = .ok (.iload_n 3, 1) := by decide +kernel
theorem dL_law_1117 : decode cL_law 1117 = .ok (.iconst 2, 1) := by decide +kernel
theorem dL_law_1118 : decode cL_law 1118 = .ok (.iadd, 1) := by decide +kernel
theorem dL_law_1119 : decode cL_law 1119 = .ok (.iaload, 1) := by decide +kernel
theorem dL_law_1120 : decode cL_law 1120 = .ok (.invokevirtual 134, 3) := by decide +kernel
theorem dL_law_1123 : decode cL_law 1123 = .ok (.aload_n 2, 1) := by decide +kernel
theorem dL_law_1124 : decode cL_law 1124 = .ok (.aload_n 0, 1) := by decide +kernel
theorem dL_law_1125 : decode cL_law 1125 = .ok (.iload_n 3, 1) := by decide +kernel
theorem dL_law_1126 : decode cL_law 1126 = .ok (.iconst 1, 1) := by decide +kernel
theorem dL_law_1127 : decode cL_law 1127 = .ok (.iadd, 1) := by decide +kernel
theorem dL_law_1128 : decode cL_law 1128 = .ok (.iaload, 1) := by decide +kernel
theorem dL_law_1129 : decode cL_law 1129 = .ok (.aload_n 0, 1) := by decide +kernel
theorem dL_law_1130 : decode cL_law 1130 = .ok (.iload_n 3, 1) := by decide +kernel
theorem dL_law_1131 : decode cL_law 1131 = .ok (.iconst 2, 1) := by decide +kernel
theorem dL_law_1132 : decode cL_law 1132 = .ok (.iadd, 1) := by decide +kernel
theorem dL_law_1133 : decode cL_law 1133 = .ok (.iaload, 1) := by decide +kernel
theorem dL_law_1134 : decode cL_law 1134 = .ok (.invokevirtual 138, 3) := by decide +kernel
theorem dL_law_1137 : decode cL_law 1137 = .ok (.lcmp, 1) := by decide +kernel
theorem dL_law_1138 : decode cL_law 1138 = .ok (.ifCond .eq 510, 3) := by decide +kernel
set_option maxHeartbeats 4000000 in
set_option maxRecDepth 20000 in
theorem lo_hope {p : Program} {l : Launch} {e : Env} {s : State} {m : MethodId} {args : Array Value} {below : List Frame} {meth : Method} {c : Code} {Q : State → Prop} {ad : Nat → Nat} {D : va_G} {cs : Nat → ClassId} {A : Nat → Prop} {hx hm : Nat → Nat} {b L : Nat} {xs : Nat → Int32} (C : Cx p s m args c cL_law 4 RL ad D (tysW cs) A) (X : Scr s A b L xs) (hL : L < 2 ^ 31) {σ τ : Nat → Nat → Int32} (h : Rel σ τ) {i : Nat} (hi : i + 4 < L) (k : ∀ σ2 τ2, Rel σ2 τ2 → VN p l e room_1 s m args below meth c Q D A 4 78 1876 (wX cs hx σ2 ++ wM cs hm τ2) 1648 [(3, .int (nI i)), (2, .ref (hm 0)), (1, .ref (hx 0)), (0, .ref b)] []) : VN p l e room_1 s m args below meth c Q D A 4 78 1876 (wX cs hx σ ++ wM cs hm τ) 1109 [(3, .int (nI i)), (2, .ref (hm 0)), (1, .ref (hx 0)), (0, .ref b)] [] := by
  obtain ⟨n, rr⟩ := h.row
  obtain ⟨c0, hs, hS5, hS6⟩ := rr.r7
  have ho := o_hope h rr hs hS5 hS6 ((xs (i + 1))) ((xs (i + 2)))
  refine n_aload_n (pc := 1109) C 2 dL_law_1109 rfl rfl ?_
  refine n_aload_n (pc := 1110) C 3 dL_law_1110 rfl rfl ?_
  refine n_iload_n (pc := 1111) C 0 dL_law_1111 rfl rfl ?_
  refine n_iconst (pc := 1112) C (nI 1) dL_law_1112 (by decide) ?_
  refine n_iadd (pc := 1113) C dL_law_1113 ?_
  refine n_sld (pc := 1114) C X (i + 1) (nI_add i 1) (by omega) hL dL_law_1114 ?_
  refine n_aload_n (pc := 1115) C 3 dL_law_1115 rfl rfl ?_
  refine n_iload_n (pc := 1116) C 0 dL_law_1116 rfl rfl ?_
  refine n_iconst (pc := 1117) C (nI 2) dL_law_1117 (by decide) ?_
  refine n_iadd (pc := 1118) C dL_law_1118 ?_
  refine n_sld (pc := 1119) C X (i + 2) (nI_add i 2) (by omega) hL dL_law_1119 ?_
  refine n_Vl (pc := 1120) C (As := [.int (xs (i + 1)), .int (xs (i + 2))]) (rest := []) (b := hx 0) (ci := 5) (q0 := 0) (w' := wX cs hx σ ++ wM cs hm τ) (t_X5_hope l ad D cs hx σ [] (wM cs hm τ) n c0 ((xs (i + 1))) ((xs (i + 2))) rr.h0 rr.hn hS5 hs) mv_X5_hope ml_RL_134 rfl ⟨(Nat.le_of_ble_eq_true rfl), (Nat.le_of_ble_eq_true rfl)⟩ ⟨rfl, rfl⟩ rfl rfl rfl rfl rfl rfl (Nat.le_of_ble_eq_true rfl) dL_law_1120 (Nat.le_of_ble_eq_true rfl) (Nat.le_of_ble_eq_true rfl) ?_
  refine n_aload_n (pc := 1123) C 1 dL_law_1123 rfl rfl ?_
  refine n_aload_n (pc := 1124) C 3 dL_law_1124 rfl rfl ?_
  refine n_iload_n (pc := 1125) C 0 dL_law_1125 rfl rfl ?_
  refine n_iconst (pc := 1126) C (nI 1) dL_law_1126 (by decide) ?_
  refine n_iadd (pc := 1127) C dL_law_1127 ?_
  refine n_sld (pc := 1128) C X (i + 1) (nI_add i 1) (by omega) hL dL_law_1128 ?_
  refine n_aload_n (pc := 1129) C 3 dL_law_1129 rfl rfl ?_
  refine n_iload_n (pc := 1130) C 0 dL_law_1130 rfl rfl ?_
  refine n_iconst (pc := 1131) C (nI 2) dL_law_1131 (by decide) ?_
  refine n_iadd (pc := 1132) C dL_law_1132 ?_
  refine n_sld (pc := 1133) C X (i + 2) (nI_add i 2) (by omega) hL dL_law_1133 ?_
  refine n_Vl (pc := 1134) C (As := [.int (xs (i + 1)), .int (xs (i + 2))]) (rest := [.long _]) (b := hm 0) (ci := 6) (q0 := 0) (w' := wX cs hx σ ++ wM cs hm τ) (t_X6_hope l ad D cs hm τ (wX cs hx σ) [] n c0 ((xs (i + 1))) ((xs (i + 2))) rr.h0' rr.hn hS6 hs) mv_X6_hope ml_RL_138 rfl ⟨(Nat.le_of_ble_eq_true rfl), (Nat.le_of_ble_eq_true rfl)⟩ ⟨rfl, rfl⟩ rfl rfl rfl (by rw [List.append_nil]) (by rw [List.append_nil]) rfl (Nat.le_of_ble_eq_true rfl) dL_law_1134 (Nat.le_of_ble_eq_true rfl) (Nat.le_of_ble_eq_true rfl) ?_
  refine n_lcmp (pc := 1137) C dL_law_1137 ?_
  refine n_if_eq (pc := 1138) C 1648 dL_law_1138 (by decide) (fun _ => k _ _ ho.2) (fun hne => absurd ((lg_cmp_eq _ _).mpr ho.1) hne)
theorem dL_law_1143 : decode cL_law 1143 = .ok (.aload_n 1, 1) := by decide +kernel
theorem dL_law_1144 : decode cL_law 1144 = .ok (.aload_n 0, 1) := by decide +kernel
theorem dL_law_1145 : decode cL_law 1145 = .ok (.iload_n 3, 1) := by decide +kernel
theorem dL_law_1146 : decode cL_law 1146 = .ok (.iconst 1, 1) := by decide +kernel
theorem dL_law_1147 : decode cL_law 1147 = .ok (.iadd, 1) := by decide +kernel
theorem dL_law_1148 : decode cL_law 1148 = .ok (.iaload, 1) := by decide +kernel
theorem dL_law_1149 : decode cL_law 1149 = .ok (.aload_n 0, 1) := by decide +kernel
theorem dL_law_1150 : decode cL_law 1150 = .ok (.iload_n 3, 1) := by decide +kernel
theorem dL_law_1151 : decode cL_law 1151 = .ok (.iconst 2, 1) := by decide +kernel
theorem dL_law_1152 : decode cL_law 1152 = .ok (.iadd, 1) := by decide +kernel
theorem dL_law_1153 : decode cL_law 1153 = .ok (.iaload, 1) := by decide +kernel
theorem dL_law_1154 : decode cL_law 1154 = .ok (.invokevirtual 139, 3) := by decide +kernel
theorem dL_law_1157 : decode cL_law 1157 = .ok (.aload_n 2, 1) := by decide +kernel
theorem dL_law_1158 : decode cL_law 1158 = .ok (.aload_n 0, 1) := by decide +kernel
theorem dL_law_1159 : decode cL_law 1159 = .ok (.iload_n 3, 1) := by decide +kernel
theorem dL_law_1160 : decode cL_law 1160 = .ok (.iconst 1, 1) := by decide +kernel
theorem dL_law_1161 : decode cL_law 1161 = .ok (.iadd, 1) := by decide +kernel
theorem dL_law_1162 : decode cL_law 1162 = .ok (.iaload, 1) := by decide +kernel
theorem dL_law_1163 : decode cL_law 1163 = .ok (.aload_n 0, 1) := by decide +kernel
theorem dL_law_1164 : decode cL_law 1164 = .ok (.iload_n 3, 1) := by decide +kernel
theorem dL_law_1165 : decode cL_law 1165 = .ok (.iconst 2, 1) := by decide +kernel
theorem dL_law_1166 : decode cL_law 1166 = .ok (.iadd, 1) := by decide +kernel
theorem dL_law_1167 : decode cL_law 1167 = .ok (.iaload, 1) := by decide +kernel
theorem dL_law_1168 : decode cL_law 1168 = .ok (.invokevirtual 142, 3) := by decide +kernel
theorem dL_law_1171 : decode cL_law 1171 = .ok (.if_icmp .eq 477, 3) := by decide +kernel
set_option maxHeartbeats 4000000 in
set_option maxRecDepth 20000 in
theorem lo_prove {p : Program} {l : Launch} {e : Env} {s : State} {m : MethodId} {args : Array Value} {below : List Frame} {meth : Method} {c : Code} {Q : State → Prop} {ad : Nat → Nat} {D : va_G} {cs : Nat → ClassId} {A : Nat → Prop} {hx hm : Nat → Nat} {b L : Nat} {xs : Nat → Int32} (C : Cx p s m args c cL_law 4 RL ad D (tysW cs) A) (X : Scr s A b L xs) (hL : L < 2 ^ 31) {σ τ : Nat → Nat → Int32} (h : Rel σ τ) {i : Nat} (hi : i + 4 < L) (k : ∀ σ2 τ2, Rel σ2 τ2 → VN p l e room_1 s m args below meth c Q D A 4 78 1876 (wX cs hx σ2 ++ wM cs hm τ2) 1648 [(3, .int (nI i)), (2, .ref (hm 0)), (1, .ref (hx 0)), (0, .ref b)] []) : VN p l e room_1 s m args below meth c Q D A 4 78 1876 (wX cs hx σ ++ wM cs hm τ) 1143 [(3, .int (nI i)), (2, .ref (hm 0)), (1, .ref (hx 0)), (0, .ref b)] [] := by
  obtain ⟨n, rr⟩ := h.row
  have ho := o_prove h rr ((xs (i + 1))) ((xs (i + 2)))
  refine n_aload_n (pc := 1143) C 2 dL_law_1143 rfl rfl ?_
  refine n_aload_n (pc := 1144) C 3 dL_law_1144 rfl rfl ?_
  refine n_iload_n (pc := 1145) C 0 dL_law_1145 rfl rfl ?_
  refine n_iconst (pc := 1146) C (nI 1) dL_law_1146 (by decide) ?_
  refine n_iadd (pc := 1147) C dL_law_1147 ?_
  refine n_sld (pc := 1148) C X (i + 1) (nI_add i 1) (by omega) hL dL_law_1148 ?_
  refine n_aload_n (pc := 1149) C 3 dL_law_1149 rfl rfl ?_
  refine n_iload_n (pc := 1150) C 0 dL_law_1150 rfl rfl ?_
  refine n_iconst (pc := 1151) C (nI 2) dL_law_1151 (by decide) ?_
  refine n_iadd (pc := 1152) C dL_law_1152 ?_
  refine n_sld (pc := 1153) C X (i + 2) (nI_add i 2) (by omega) hL dL_law_1153 ?_
  refine n_Vi (pc := 1154) C (As := [.int (xs (i + 1)), .int (xs (i + 2))]) (rest := []) (b := hx 0) (ci := 5) (q0 := 0) (w' := wX cs hx (su (su (su σ 2 (gateF (oneB n ((xs (i + 1))) && inB ((xs (i + 2))) 1 10) (daysF n (σ 0) ((xs (i + 2))).toNatClampNeg) (σ 2))) 13 (gateF (oneB n ((xs (i + 1))) && inB ((xs (i + 2))) 1 10) (prN n (σ 0) (σ 13) ((xs (i + 1))).toNatClampNeg ((xs (i + 2))).toNatClampNeg) (σ 13))) 14 (gateF (oneB n ((xs (i + 1))) && inB ((xs (i + 2))) 1 10) (fun _ => ((xs (i + 2)))) (σ 14))) ++ wM cs hm τ) (t_X5_prove l ad D cs hx σ [] (wM cs hm τ) n ((xs (i + 1))) ((xs (i + 2))) rr.h0 rr.hn rr.rg) mv_X5_prove ml_RL_139 rfl ⟨(Nat.le_of_ble_eq_true rfl), (Nat.le_of_ble_eq_true rfl)⟩ ⟨rfl, rfl⟩ rfl rfl rfl rfl rfl rfl (Nat.le_of_ble_eq_true rfl) dL_law_1154 (Nat.le_of_ble_eq_true rfl) (Nat.le_of_ble_eq_true rfl) ?_
  refine n_aload_n (pc := 1157) C 1 dL_law_1157 rfl rfl ?_
  refine n_aload_n (pc := 1158) C 3 dL_law_1158 rfl rfl ?_
  refine n_iload_n (pc := 1159) C 0 dL_law_1159 rfl rfl ?_
  refine n_iconst (pc := 1160) C (nI 1) dL_law_1160 (by decide) ?_
  refine n_iadd (pc := 1161) C dL_law_1161 ?_
  refine n_sld (pc := 1162) C X (i + 1) (nI_add i 1) (by omega) hL dL_law_1162 ?_
  refine n_aload_n (pc := 1163) C 3 dL_law_1163 rfl rfl ?_
  refine n_iload_n (pc := 1164) C 0 dL_law_1164 rfl rfl ?_
  refine n_iconst (pc := 1165) C (nI 2) dL_law_1165 (by decide) ?_
  refine n_iadd (pc := 1166) C dL_law_1166 ?_
  refine n_sld (pc := 1167) C X (i + 2) (nI_add i 2) (by omega) hL dL_law_1167 ?_
  refine n_Vi (pc := 1168) C (As := [.int (xs (i + 1)), .int (xs (i + 2))]) (rest := [.int _]) (b := hm 0) (ci := 6) (q0 := 0) (w' := wX cs hx (su (su (su σ 2 (gateF (oneB n ((xs (i + 1))) && inB ((xs (i + 2))) 1 10) (daysF n (σ 0) ((xs (i + 2))).toNatClampNeg) (σ 2))) 13 (gateF (oneB n ((xs (i + 1))) && inB ((xs (i + 2))) 1 10) (prN n (σ 0) (σ 13) ((xs (i + 1))).toNatClampNeg ((xs (i + 2))).toNatClampNeg) (σ 13))) 14 (gateF (oneB n ((xs (i + 1))) && inB ((xs (i + 2))) 1 10) (fun _ => ((xs (i + 2)))) (σ 14))) ++ wM cs hm (su (su (su τ 2 (gateF (oneB n ((xs (i + 1))) && inB ((xs (i + 2))) 1 10) (τ 0) (τ 2))) 13 (gateF (oneB n ((xs (i + 1))) && inB ((xs (i + 2))) 1 10) (prN n (τ 0) (τ 13) ((xs (i + 1))).toNatClampNeg ((xs (i + 2))).toNatClampNeg) (τ 13))) 14 (gateF (oneB n ((xs (i + 1))) && inB ((xs (i + 2))) 1 10) (fun _ => ((xs (i + 2)))) (τ 14)))) (t_X6_prove l ad D cs hm τ (wX cs hx (su (su (su σ 2 (gateF (oneB n ((xs (i + 1))) && inB ((xs (i + 2))) 1 10) (daysF n (σ 0) ((xs (i + 2))).toNatClampNeg) (σ 2))) 13 (gateF (oneB n ((xs (i + 1))) && inB ((xs (i + 2))) 1 10) (prN n (σ 0) (σ 13) ((xs (i + 1))).toNatClampNeg ((xs (i + 2))).toNatClampNeg) (σ 13))) 14 (gateF (oneB n ((xs (i + 1))) && inB ((xs (i + 2))) 1 10) (fun _ => ((xs (i + 2)))) (σ 14)))) [] n ((xs (i + 1))) ((xs (i + 2))) rr.h0' rr.hn) mv_X6_prove ml_RL_142 rfl ⟨(Nat.le_of_ble_eq_true rfl), (Nat.le_of_ble_eq_true rfl)⟩ ⟨rfl, rfl⟩ rfl rfl rfl (by rw [List.append_nil]) (by rw [List.append_nil]) rfl (Nat.le_of_ble_eq_true rfl) dL_law_1168 (Nat.le_of_ble_eq_true rfl) (Nat.le_of_ble_eq_true rfl) ?_
  refine n_icmp_eq (pc := 1171) C 1648 dL_law_1171 (by decide) (fun _ => k _ _ ho.2) (fun hne => absurd ho.1 hne)
theorem dL_law_1176 : decode cL_law 1176 = .ok (.aload_n 1, 1) := by decide +kernel
theorem dL_law_1177 : decode cL_law 1177 = .ok (.aload_n 0, 1) := by decide +kernel
theorem dL_law_1178 : decode cL_law 1178 = .ok (.iload_n 3, 1) := by decide +kernel
theorem dL_law_1179 : decode cL_law 1179 = .ok (.iconst 1, 1) := by decide +kernel
theorem dL_law_1180 : decode cL_law 1180 = .ok (.iadd, 1) := by decide +kernel
theorem dL_law_1181 : decode cL_law 1181 = .ok (.iaload, 1) := by decide +kernel
theorem dL_law_1182 : decode cL_law 1182 = .ok (.aload_n 0, 1) := by decide +kernel
theorem dL_law_1183 : decode cL_law 1183 = .ok (.iload_n 3, 1) := by decide +kernel
theorem dL_law_1184 : decode cL_law 1184 = .ok (.iconst 2, 1) := by decide +kernel
theorem dL_law_1185 : decode cL_law 1185 = .ok (.iadd, 1) := by decide +kernel
theorem dL_law_1186 : decode cL_law 1186 = .ok (.iaload, 1) := by decide +kernel
theorem dL_law_1187 : decode cL_law 1187 = .ok (.invokevirtual 143, 3) := by decide +kernel
theorem dL_law_1190 : decode cL_law 1190 = .ok (.aload_n 2, 1) := by decide +kernel
theorem dL_law_1191 : decode cL_law 1191 = .ok (.aload_n 0, 1) := by decide +kernel
theorem dL_law_1192 : decode cL_law 1192 = .ok (.iload_n 3, 1) := by decide +kernel
theorem dL_law_1193 : decode cL_law 1193 = .ok (.iconst 1, 1) := by decide +kernel
theorem dL_law_1194 : decode cL_law 1194 = .ok (.iadd, 1) := by decide +kernel
theorem dL_law_1195 : decode cL_law 1195 = .ok (.iaload, 1) := by decide +kernel
theorem dL_law_1196 : decode cL_law 1196 = .ok (.aload_n 0, 1) := by decide +kernel
theorem dL_law_1197 : decode cL_law 1197 = .ok (.iload_n 3, 1) := by decide +kernel
theorem dL_law_1198 : decode cL_law 1198 = .ok (.iconst 2, 1) := by decide +kernel
theorem dL_law_1199 : decode cL_law 1199 = .ok (.iadd, 1) := by decide +kernel
theorem dL_law_1200 : decode cL_law 1200 = .ok (.iaload, 1) := by decide +kernel
theorem dL_law_1201 : decode cL_law 1201 = .ok (.invokevirtual 146, 3) := by decide +kernel
theorem dL_law_1204 : decode cL_law 1204 = .ok (.if_icmp .eq 444, 3) := by decide +kernel
set_option maxHeartbeats 4000000 in
set_option maxRecDepth 20000 in
theorem lo_row {p : Program} {l : Launch} {e : Env} {s : State} {m : MethodId} {args : Array Value} {below : List Frame} {meth : Method} {c : Code} {Q : State → Prop} {ad : Nat → Nat} {D : va_G} {cs : Nat → ClassId} {A : Nat → Prop} {hx hm : Nat → Nat} {b L : Nat} {xs : Nat → Int32} (C : Cx p s m args c cL_law 4 RL ad D (tysW cs) A) (X : Scr s A b L xs) (hL : L < 2 ^ 31) {σ τ : Nat → Nat → Int32} (h : Rel σ τ) {i : Nat} (hi : i + 4 < L) (k : ∀ σ2 τ2, Rel σ2 τ2 → VN p l e room_1 s m args below meth c Q D A 4 78 1876 (wX cs hx σ2 ++ wM cs hm τ2) 1648 [(3, .int (nI i)), (2, .ref (hm 0)), (1, .ref (hx 0)), (0, .ref b)] []) : VN p l e room_1 s m args below meth c Q D A 4 78 1876 (wX cs hx σ ++ wM cs hm τ) 1176 [(3, .int (nI i)), (2, .ref (hm 0)), (1, .ref (hx 0)), (0, .ref b)] [] := by
  obtain ⟨n, rr⟩ := h.row
  obtain ⟨y, hy0, hY5, hY6⟩ := h.rowN
  have ho := o_row h rr hy0 hY5 hY6 ((xs (i + 1))) ((xs (i + 2)))
  refine n_aload_n (pc := 1176) C 2 dL_law_1176 rfl rfl ?_
  refine n_aload_n (pc := 1177) C 3 dL_law_1177 rfl rfl ?_
  refine n_iload_n (pc := 1178) C 0 dL_law_1178 rfl rfl ?_
  refine n_iconst (pc := 1179) C (nI 1) dL_law_1179 (by decide) ?_
  refine n_iadd (pc := 1180) C dL_law_1180 ?_
  refine n_sld (pc := 1181) C X (i + 1) (nI_add i 1) (by omega) hL dL_law_1181 ?_
  refine n_aload_n (pc := 1182) C 3 dL_law_1182 rfl rfl ?_
  refine n_iload_n (pc := 1183) C 0 dL_law_1183 rfl rfl ?_
  refine n_iconst (pc := 1184) C (nI 2) dL_law_1184 (by decide) ?_
  refine n_iadd (pc := 1185) C dL_law_1185 ?_
  refine n_sld (pc := 1186) C X (i + 2) (nI_add i 2) (by omega) hL dL_law_1186 ?_
  refine n_Vi (pc := 1187) C (As := [.int (xs (i + 1)), .int (xs (i + 2))]) (rest := []) (b := hx 0) (ci := 5) (q0 := 0) (w' := wX cs hx σ ++ wM cs hm τ) (t_X5_row l ad D cs hx σ [] (wM cs hm τ) n y ((xs (i + 1))) ((xs (i + 2))) rr.h0 rr.hn rr.rg hY5 hy0) mv_X5_row ml_RL_143 rfl ⟨(Nat.le_of_ble_eq_true rfl), (Nat.le_of_ble_eq_true rfl)⟩ ⟨rfl, rfl⟩ rfl rfl rfl rfl rfl rfl (Nat.le_of_ble_eq_true rfl) dL_law_1187 (Nat.le_of_ble_eq_true rfl) (Nat.le_of_ble_eq_true rfl) ?_
  refine n_aload_n (pc := 1190) C 1 dL_law_1190 rfl rfl ?_
  refine n_aload_n (pc := 1191) C 3 dL_law_1191 rfl rfl ?_
  refine n_iload_n (pc := 1192) C 0 dL_law_1192 rfl rfl ?_
  refine n_iconst (pc := 1193) C (nI 1) dL_law_1193 (by decide) ?_
  refine n_iadd (pc := 1194) C dL_law_1194 ?_
  refine n_sld (pc := 1195) C X (i + 1) (nI_add i 1) (by omega) hL dL_law_1195 ?_
  refine n_aload_n (pc := 1196) C 3 dL_law_1196 rfl rfl ?_
  refine n_iload_n (pc := 1197) C 0 dL_law_1197 rfl rfl ?_
  refine n_iconst (pc := 1198) C (nI 2) dL_law_1198 (by decide) ?_
  refine n_iadd (pc := 1199) C dL_law_1199 ?_
  refine n_sld (pc := 1200) C X (i + 2) (nI_add i 2) (by omega) hL dL_law_1200 ?_
  refine n_Vi (pc := 1201) C (As := [.int (xs (i + 1)), .int (xs (i + 2))]) (rest := [.int _]) (b := hm 0) (ci := 6) (q0 := 0) (w' := wX cs hx σ ++ wM cs hm τ) (t_X6_row l ad D cs hm τ (wX cs hx σ) [] n y ((xs (i + 1))) ((xs (i + 2))) rr.h0' rr.hn hY6 hy0) mv_X6_row ml_RL_146 rfl ⟨(Nat.le_of_ble_eq_true rfl), (Nat.le_of_ble_eq_true rfl)⟩ ⟨rfl, rfl⟩ rfl rfl rfl (by rw [List.append_nil]) (by rw [List.append_nil]) rfl (Nat.le_of_ble_eq_true rfl) dL_law_1201 (Nat.le_of_ble_eq_true rfl) (Nat.le_of_ble_eq_true rfl) ?_
  refine n_icmp_eq (pc := 1204) C 1648 dL_law_1204 (by decide) (fun _ => k _ _ ho.2) (fun hne => absurd ho.1 hne)
theorem dL_law_1209 : decode cL_law 1209 = .ok (.aload_n 1, 1) := by decide +kernel
theorem dL_law_1210 : decode cL_law 1210 = .ok (.aload_n 0, 1) := by decide +kernel
theorem dL_law_1211 : decode cL_law 1211 = .ok (.iload_n 3, 1) := by decide +kernel
theorem dL_law_1212 : decode cL_law 1212 = .ok (.iconst 1, 1) := by decide +kernel
theorem dL_law_1213 : decode cL_law 1213 = .ok (.iadd, 1) := by decide +kernel
theorem dL_law_1214 : decode cL_law 1214 = .ok (.iaload, 1) := by decide +kernel
theorem dL_law_1215 : decode cL_law 1215 = .ok (.aload_n 0, 1) := by decide +kernel
theorem dL_law_1216 : decode cL_law 1216 = .ok (.iload_n 3, 1) := by decide +kernel
theorem dL_law_1217 : decode cL_law 1217 = .ok (.iconst 2, 1) := by decide +kernel
theorem dL_law_1218 : decode cL_law 1218 = .ok (.iadd, 1) := by decide +kernel
theorem dL_law_1219 : decode cL_law 1219 = .ok (.iaload, 1) := by decide +kernel
theorem dL_law_1220 : decode cL_law 1220 = .ok (.aload_n 0, 1) := by decide +kernel
theorem dL_law_1221 : decode cL_law 1221 = .ok (.iload_n 3, 1) := by decide +kernel
theorem dL_law_1222 : decode cL_law 1222 = .ok (.iconst 3, 1) := by decide +kernel
theorem dL_law_1223 : decode cL_law 1223 = .ok (.iadd, 1) := by decide +kernel
theorem dL_law_1224 : decode cL_law 1224 = .ok (.iaload, 1) := by decide +kernel
theorem dL_law_1225 : decode cL_law 1225 = .ok (.invokevirtual 147, 3) := by decide +kernel
theorem dL_law_1228 : decode cL_law 1228 = .ok (.aload_n 2, 1) := by decide +kernel
theorem dL_law_1229 : decode cL_law 1229 = .ok (.aload_n 0, 1) := by decide +kernel
theorem dL_law_1230 : decode cL_law 1230 = .ok (.iload_n 3, 1) := by decide +kernel
theorem dL_law_1231 : decode cL_law 1231 = .ok (.iconst 1, 1) := by decide +kernel
theorem dL_law_1232 : decode cL_law 1232 = .ok (.iadd, 1) := by decide +kernel
theorem dL_law_1233 : decode cL_law 1233 = .ok (.iaload, 1) := by decide +kernel
theorem dL_law_1234 : decode cL_law 1234 = .ok (.aload_n 0, 1) := by decide +kernel
theorem dL_law_1235 : decode cL_law 1235 = .ok (.iload_n 3, 1) := by decide +kernel
theorem dL_law_1236 : decode cL_law 1236 = .ok (.iconst 2, 1) := by decide +kernel
theorem dL_law_1237 : decode cL_law 1237 = .ok (.iadd, 1) := by decide +kernel
theorem dL_law_1238 : decode cL_law 1238 = .ok (.iaload, 1) := by decide +kernel
theorem dL_law_1239 : decode cL_law 1239 = .ok (.aload_n 0, 1) := by decide +kernel
theorem dL_law_1240 : decode cL_law 1240 = .ok (.iload_n 3, 1) := by decide +kernel
theorem dL_law_1241 : decode cL_law 1241 = .ok (.iconst 3, 1) := by decide +kernel
theorem dL_law_1242 : decode cL_law 1242 = .ok (.iadd, 1) := by decide +kernel
theorem dL_law_1243 : decode cL_law 1243 = .ok (.iaload, 1) := by decide +kernel
theorem dL_law_1244 : decode cL_law 1244 = .ok (.invokevirtual 150, 3) := by decide +kernel
theorem dL_law_1247 : decode cL_law 1247 = .ok (.if_icmp .eq 401, 3) := by decide +kernel
set_option maxHeartbeats 4000000 in
set_option maxRecDepth 20000 in
theorem lo_alterRow {p : Program} {l : Launch} {e : Env} {s : State} {m : MethodId} {args : Array Value} {below : List Frame} {meth : Method} {c : Code} {Q : State → Prop} {ad : Nat → Nat} {D : va_G} {cs : Nat → ClassId} {A : Nat → Prop} {hx hm : Nat → Nat} {b L : Nat} {xs : Nat → Int32} (C : Cx p s m args c cL_law 4 RL ad D (tysW cs) A) (X : Scr s A b L xs) (hL : L < 2 ^ 31) {σ τ : Nat → Nat → Int32} (h : Rel σ τ) {i : Nat} (hi : i + 4 < L) (k : ∀ σ2 τ2, Rel σ2 τ2 → VN p l e room_1 s m args below meth c Q D A 4 78 1876 (wX cs hx σ2 ++ wM cs hm τ2) 1648 [(3, .int (nI i)), (2, .ref (hm 0)), (1, .ref (hx 0)), (0, .ref b)] []) : VN p l e room_1 s m args below meth c Q D A 4 78 1876 (wX cs hx σ ++ wM cs hm τ) 1209 [(3, .int (nI i)), (2, .ref (hm 0)), (1, .ref (hx 0)), (0, .ref b)] [] := by
  obtain ⟨n, rr⟩ := h.row
  obtain ⟨y, hy0, hY5, hY6⟩ := h.rowN
  have ho := o_alterRow h rr hy0 hY5 hY6 ((xs (i + 1))) ((xs (i + 2))) ((xs (i + 3)))
  refine n_aload_n (pc := 1209) C 2 dL_law_1209 rfl rfl ?_
  refine n_aload_n (pc := 1210) C 3 dL_law_1210 rfl rfl ?_
  refine n_iload_n (pc := 1211) C 0 dL_law_1211 rfl rfl ?_
  refine n_iconst (pc := 1212) C (nI 1) dL_law_1212 (by decide) ?_
  refine n_iadd (pc := 1213) C dL_law_1213 ?_
  refine n_sld (pc := 1214) C X (i + 1) (nI_add i 1) (by omega) hL dL_law_1214 ?_
  refine n_aload_n (pc := 1215) C 3 dL_law_1215 rfl rfl ?_
  refine n_iload_n (pc := 1216) C 0 dL_law_1216 rfl rfl ?_
  refine n_iconst (pc := 1217) C (nI 2) dL_law_1217 (by decide) ?_
  refine n_iadd (pc := 1218) C dL_law_1218 ?_
  refine n_sld (pc := 1219) C X (i + 2) (nI_add i 2) (by omega) hL dL_law_1219 ?_
  refine n_aload_n (pc := 1220) C 3 dL_law_1220 rfl rfl ?_
  refine n_iload_n (pc := 1221) C 0 dL_law_1221 rfl rfl ?_
  refine n_iconst (pc := 1222) C (nI 3) dL_law_1222 (by decide) ?_
  refine n_iadd (pc := 1223) C dL_law_1223 ?_
  refine n_sld (pc := 1224) C X (i + 3) (nI_add i 3) (by omega) hL dL_law_1224 ?_
  refine n_Vi (pc := 1225) C (As := [.int (xs (i + 1)), .int (xs (i + 2)), .int (xs (i + 3))]) (rest := []) (b := hx 0) (ci := 5) (q0 := 0) (w' := wX cs hx (su σ 13 (gateF (inB ((xs (i + 1))) 0 (nI y - 1) && inB ((xs (i + 2))) 0 2) (upd (σ 13) (3 * ((xs (i + 1))).toNatClampNeg + ((xs (i + 2))).toNatClampNeg) ((xs (i + 3)))) (σ 13))) ++ wM cs hm τ) (t_X5_alterRow l ad D cs hx σ [] (wM cs hm τ) n y ((xs (i + 1))) ((xs (i + 2))) ((xs (i + 3))) rr.h0 rr.hn rr.rg hY5 hy0) mv_X5_alterRow ml_RL_147 rfl ⟨(Nat.le_of_ble_eq_true rfl), (Nat.le_of_ble_eq_true rfl)⟩ ⟨rfl, rfl⟩ rfl rfl rfl rfl rfl rfl (Nat.le_of_ble_eq_true rfl) dL_law_1225 (Nat.le_of_ble_eq_true rfl) (Nat.le_of_ble_eq_true rfl) ?_
  refine n_aload_n (pc := 1228) C 1 dL_law_1228 rfl rfl ?_
  refine n_aload_n (pc := 1229) C 3 dL_law_1229 rfl rfl ?_
  refine n_iload_n (pc := 1230) C 0 dL_law_1230 rfl rfl ?_
  refine n_iconst (pc := 1231) C (nI 1) dL_law_1231 (by decide) ?_
  refine n_iadd (pc := 1232) C dL_law_1232 ?_
  refine n_sld (pc := 1233) C X (i + 1) (nI_add i 1) (by omega) hL dL_law_1233 ?_
  refine n_aload_n (pc := 1234) C 3 dL_law_1234 rfl rfl ?_
  refine n_iload_n (pc := 1235) C 0 dL_law_1235 rfl rfl ?_
  refine n_iconst (pc := 1236) C (nI 2) dL_law_1236 (by decide) ?_
  refine n_iadd (pc := 1237) C dL_law_1237 ?_
  refine n_sld (pc := 1238) C X (i + 2) (nI_add i 2) (by omega) hL dL_law_1238 ?_
  refine n_aload_n (pc := 1239) C 3 dL_law_1239 rfl rfl ?_
  refine n_iload_n (pc := 1240) C 0 dL_law_1240 rfl rfl ?_
  refine n_iconst (pc := 1241) C (nI 3) dL_law_1241 (by decide) ?_
  refine n_iadd (pc := 1242) C dL_law_1242 ?_
  refine n_sld (pc := 1243) C X (i + 3) (nI_add i 3) (by omega) hL dL_law_1243 ?_
  refine n_Vi (pc := 1244) C (As := [.int (xs (i + 1)), .int (xs (i + 2)), .int (xs (i + 3))]) (rest := [.int _]) (b := hm 0) (ci := 6) (q0 := 0) (w' := wX cs hx (su σ 13 (gateF (inB ((xs (i + 1))) 0 (nI y - 1) && inB ((xs (i + 2))) 0 2) (upd (σ 13) (3 * ((xs (i + 1))).toNatClampNeg + ((xs (i + 2))).toNatClampNeg) ((xs (i + 3)))) (σ 13))) ++ wM cs hm (su τ 13 (gateF (inB ((xs (i + 1))) 0 (nI y - 1) && inB ((xs (i + 2))) 0 2) (upd (τ 13) (3 * ((xs (i + 1))).toNatClampNeg + ((xs (i + 2))).toNatClampNeg) ((xs (i + 3)))) (τ 13)))) (t_X6_alterRow l ad D cs hm τ (wX cs hx (su σ 13 (gateF (inB ((xs (i + 1))) 0 (nI y - 1) && inB ((xs (i + 2))) 0 2) (upd (σ 13) (3 * ((xs (i + 1))).toNatClampNeg + ((xs (i + 2))).toNatClampNeg) ((xs (i + 3)))) (σ 13)))) [] n y ((xs (i + 1))) ((xs (i + 2))) ((xs (i + 3))) rr.h0' rr.hn hY6 hy0) mv_X6_alterRow ml_RL_150 rfl ⟨(Nat.le_of_ble_eq_true rfl), (Nat.le_of_ble_eq_true rfl)⟩ ⟨rfl, rfl⟩ rfl rfl rfl (by rw [List.append_nil]) (by rw [List.append_nil]) rfl (Nat.le_of_ble_eq_true rfl) dL_law_1244 (Nat.le_of_ble_eq_true rfl) (Nat.le_of_ble_eq_true rfl) ?_
  refine n_icmp_eq (pc := 1247) C 1648 dL_law_1247 (by decide) (fun _ => k _ _ ho.2) (fun hne => absurd ho.1 hne)
