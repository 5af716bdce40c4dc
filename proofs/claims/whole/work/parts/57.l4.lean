theorem dL_law_1252 : decode cL_law 1252 = .ok (.aload_n 1, 1) := by decide +kernel
theorem dL_law_1253 : decode cL_law 1253 = .ok (.aload_n 0, 1) := by decide +kernel
theorem dL_law_1254 : decode cL_law 1254 = .ok (.iload_n 3, 1) := by decide +kernel
theorem dL_law_1255 : decode cL_law 1255 = .ok (.iconst 1, 1) := by decide +kernel
theorem dL_law_1256 : decode cL_law 1256 = .ok (.iadd, 1) := by decide +kernel
theorem dL_law_1257 : decode cL_law 1257 = .ok (.iaload, 1) := by decide +kernel
theorem dL_law_1258 : decode cL_law 1258 = .ok (.invokevirtual 151, 3) := by decide +kernel
theorem dL_law_1261 : decode cL_law 1261 = .ok (.aload_n 2, 1) := by decide +kernel
theorem dL_law_1262 : decode cL_law 1262 = .ok (.aload_n 0, 1) := by decide +kernel
theorem dL_law_1263 : decode cL_law 1263 = .ok (.iload_n 3, 1) := by decide +kernel
theorem dL_law_1264 : decode cL_law 1264 = .ok (.iconst 1, 1) := by decide +kernel
theorem dL_law_1265 : decode cL_law 1265 = .ok (.iadd, 1) := by decide +kernel
theorem dL_law_1266 : decode cL_law 1266 = .ok (.iaload, 1) := by decide +kernel
theorem dL_law_1267 : decode cL_law 1267 = .ok (.invokevirtual 154, 3) := by decide +kernel
theorem dL_law_1270 : decode cL_law 1270 = .ok (.if_icmp .eq 378, 3) := by decide +kernel
set_option maxHeartbeats 4000000 in
set_option maxRecDepth 20000 in
theorem lo_judge {p : Program} {l : Launch} {e : Env} {s : State} {m : MethodId} {args : Array Value} {below : List Frame} {meth : Method} {c : Code} {Q : State → Prop} {ad : Nat → Nat} {D : va_G} {cs : Nat → ClassId} {A : Nat → Prop} {hx hm : Nat → Nat} {b L : Nat} {xs : Nat → Int32} (C : Cx p s m args c cL_law 4 RL ad D (tysW cs) A) (X : Scr s A b L xs) (hL : L < 2 ^ 31) {σ τ : Nat → Nat → Int32} (h : Rel σ τ) {i : Nat} (hi : i + 4 < L) (k : ∀ σ2 τ2, Rel σ2 τ2 → VN p l e room_1 s m args below meth c Q D A 4 78 1876 (wX cs hx σ2 ++ wM cs hm τ2) 1648 [(3, .int (nI i)), (2, .ref (hm 0)), (1, .ref (hx 0)), (0, .ref b)] []) : VN p l e room_1 s m args below meth c Q D A 4 78 1876 (wX cs hx σ ++ wM cs hm τ) 1252 [(3, .int (nI i)), (2, .ref (hm 0)), (1, .ref (hx 0)), (0, .ref b)] [] := by
  obtain ⟨n, rr⟩ := h.row
  obtain ⟨y, hy0, hY5, hY6⟩ := h.rowN
  have ho := o_judge h rr hy0 hY5 hY6 ((xs (i + 1)))
  refine n_aload_n (pc := 1252) C 2 dL_law_1252 rfl rfl ?_
  refine n_aload_n (pc := 1253) C 3 dL_law_1253 rfl rfl ?_
  refine n_iload_n (pc := 1254) C 0 dL_law_1254 rfl rfl ?_
  refine n_iconst (pc := 1255) C (nI 1) dL_law_1255 (by decide) ?_
  refine n_iadd (pc := 1256) C dL_law_1256 ?_
  refine n_sld (pc := 1257) C X (i + 1) (nI_add i 1) (by omega) hL dL_law_1257 ?_
  refine n_Vi (pc := 1258) C (As := [.int (xs (i + 1))]) (rest := []) (b := hx 0) (ci := 5) (q0 := 0) (w' := wX cs hx (su σ 2 (gateF (oneB n ((xs (i + 1)))) (daysF n (σ 0) (tdI (jdB n (σ 0) (σ 13) ((xs (i + 1))).toNatClampNeg) 0 y)) (σ 2))) ++ wM cs hm τ) (t_X5_judge l ad D cs hx σ [] (wM cs hm τ) n y ((xs (i + 1))) rr.h0 rr.hn rr.rg hY5 hy0) mv_X5_judge ml_RL_151 rfl ⟨(Nat.le_of_ble_eq_true rfl), (Nat.le_of_ble_eq_true rfl)⟩ ⟨rfl, rfl⟩ rfl rfl rfl rfl rfl rfl (Nat.le_of_ble_eq_true rfl) dL_law_1258 (Nat.le_of_ble_eq_true rfl) (Nat.le_of_ble_eq_true rfl) ?_
  refine n_aload_n (pc := 1261) C 1 dL_law_1261 rfl rfl ?_
  refine n_aload_n (pc := 1262) C 3 dL_law_1262 rfl rfl ?_
  refine n_iload_n (pc := 1263) C 0 dL_law_1263 rfl rfl ?_
  refine n_iconst (pc := 1264) C (nI 1) dL_law_1264 (by decide) ?_
  refine n_iadd (pc := 1265) C dL_law_1265 ?_
  refine n_sld (pc := 1266) C X (i + 1) (nI_add i 1) (by omega) hL dL_law_1266 ?_
  refine n_Vi (pc := 1267) C (As := [.int (xs (i + 1))]) (rest := [.int _]) (b := hm 0) (ci := 6) (q0 := 0) (w' := wX cs hx (su σ 2 (gateF (oneB n ((xs (i + 1)))) (daysF n (σ 0) (tdI (jdB n (σ 0) (σ 13) ((xs (i + 1))).toNatClampNeg) 0 y)) (σ 2))) ++ wM cs hm (su τ 2 (gateF (oneB n ((xs (i + 1)))) (τ 0) (τ 2)))) (t_X6_judge l ad D cs hm τ (wX cs hx (su σ 2 (gateF (oneB n ((xs (i + 1)))) (daysF n (σ 0) (tdI (jdB n (σ 0) (σ 13) ((xs (i + 1))).toNatClampNeg) 0 y)) (σ 2)))) [] n y ((xs (i + 1))) rr.h0' rr.hn hY6 hy0) mv_X6_judge ml_RL_154 rfl ⟨(Nat.le_of_ble_eq_true rfl), (Nat.le_of_ble_eq_true rfl)⟩ ⟨rfl, rfl⟩ rfl rfl rfl (by rw [List.append_nil]) (by rw [List.append_nil]) rfl (Nat.le_of_ble_eq_true rfl) dL_law_1267 (Nat.le_of_ble_eq_true rfl) (Nat.le_of_ble_eq_true rfl) ?_
  refine n_icmp_eq (pc := 1270) C 1648 dL_law_1270 (by decide) (fun _ => k _ _ ho.2) (fun hne => absurd ho.1 hne)
theorem dL_law_1275 : decode cL_law 1275 = .ok (.aload_n 1, 1) := by decide +kernel
theorem dL_law_1276 : decode cL_law 1276 = .ok (.aload_n 0, 1) := by decide +kernel
theorem dL_law_1277 : decode cL_law 1277 = .ok (.iload_n 3, 1) := by decide +kernel
theorem dL_law_1278 : decode cL_law 1278 = .ok (.iconst 1, 1) := by decide +kernel
theorem dL_law_1279 : decode cL_law 1279 = .ok (.iadd, 1) := by decide +kernel
theorem dL_law_1280 : decode cL_law 1280 = .ok (.iaload, 1) := by decide +kernel
theorem dL_law_1281 : decode cL_law 1281 = .ok (.aload_n 0, 1) := by decide +kernel
theorem dL_law_1282 : decode cL_law 1282 = .ok (.iload_n 3, 1) := by decide +kernel
theorem dL_law_1283 : decode cL_law 1283 = .ok (.iconst 2, 1) := by decide +kernel
theorem dL_law_1284 : decode cL_law 1284 = .ok (.iadd, 1) := by decide +kernel
theorem dL_law_1285 : decode cL_law 1285 = .ok (.iaload, 1) := by decide +kernel
theorem dL_law_1286 : decode cL_law 1286 = .ok (.aload_n 0, 1) := by decide +kernel
theorem dL_law_1287 : decode cL_law 1287 = .ok (.iload_n 3, 1) := by decide +kernel
theorem dL_law_1288 : decode cL_law 1288 = .ok (.iconst 3, 1) := by decide +kernel
theorem dL_law_1289 : decode cL_law 1289 = .ok (.iadd, 1) := by decide +kernel
theorem dL_law_1290 : decode cL_law 1290 = .ok (.iaload, 1) := by decide +kernel
theorem dL_law_1291 : decode cL_law 1291 = .ok (.aload_n 0, 1) := by decide +kernel
theorem dL_law_1292 : decode cL_law 1292 = .ok (.iload_n 3, 1) := by decide +kernel
theorem dL_law_1293 : decode cL_law 1293 = .ok (.iconst 4, 1) := by decide +kernel
theorem dL_law_1294 : decode cL_law 1294 = .ok (.iadd, 1) := by decide +kernel
theorem dL_law_1295 : decode cL_law 1295 = .ok (.iaload, 1) := by decide +kernel
theorem dL_law_1296 : decode cL_law 1296 = .ok (.invokevirtual 155, 3) := by decide +kernel
theorem dL_law_1299 : decode cL_law 1299 = .ok (.aload_n 2, 1) := by decide +kernel
theorem dL_law_1300 : decode cL_law 1300 = .ok (.aload_n 0, 1) := by decide +kernel
theorem dL_law_1301 : decode cL_law 1301 = .ok (.iload_n 3, 1) := by decide +kernel
theorem dL_law_1302 : decode cL_law 1302 = .ok (.iconst 1, 1) := by decide +kernel
theorem dL_law_1303 : decode cL_law 1303 = .ok (.iadd, 1) := by decide +kernel
theorem dL_law_1304 : decode cL_law 1304 = .ok (.iaload, 1) := by decide +kernel
theorem dL_law_1305 : decode cL_law 1305 = .ok (.aload_n 0, 1) := by decide +kernel
theorem dL_law_1306 : decode cL_law 1306 = .ok (.iload_n 3, 1) := by decide +kernel
theorem dL_law_1307 : decode cL_law 1307 = .ok (.iconst 2, 1) := by decide +kernel
theorem dL_law_1308 : decode cL_law 1308 = .ok (.iadd, 1) := by decide +kernel
theorem dL_law_1309 : decode cL_law 1309 = .ok (.iaload, 1) := by decide +kernel
theorem dL_law_1310 : decode cL_law 1310 = .ok (.aload_n 0, 1) := by decide +kernel
theorem dL_law_1311 : decode cL_law 1311 = .ok (.iload_n 3, 1) := by decide +kernel
theorem dL_law_1312 : decode cL_law 1312 = .ok (.iconst 3, 1) := by decide +kernel
theorem dL_law_1313 : decode cL_law 1313 = .ok (.iadd, 1) := by decide +kernel
theorem dL_law_1314 : decode cL_law 1314 = .ok (.iaload, 1) := by decide +kernel
theorem dL_law_1315 : decode cL_law 1315 = .ok (.aload_n 0, 1) := by decide +kernel
theorem dL_law_1316 : decode cL_law 1316 = .ok (.iload_n 3, 1) := by decide +kernel
theorem dL_law_1317 : decode cL_law 1317 = .ok (.iconst 4, 1) := by decide +kernel
theorem dL_law_1318 : decode cL_law 1318 = .ok (.iadd, 1) := by decide +kernel
theorem dL_law_1319 : decode cL_law 1319 = .ok (.iaload, 1) := by decide +kernel
theorem dL_law_1320 : decode cL_law 1320 = .ok (.invokevirtual 158, 3) := by decide +kernel
theorem dL_law_1323 : decode cL_law 1323 = .ok (.if_icmp .eq 325, 3) := by decide +kernel
set_option maxHeartbeats 4000000 in
set_option maxRecDepth 20000 in
theorem lo_minds {p : Program} {l : Launch} {e : Env} {s : State} {m : MethodId} {args : Array Value} {below : List Frame} {meth : Method} {c : Code} {Q : State → Prop} {ad : Nat → Nat} {D : va_G} {cs : Nat → ClassId} {A : Nat → Prop} {hx hm : Nat → Nat} {b L : Nat} {xs : Nat → Int32} (C : Cx p s m args c cL_law 4 RL ad D (tysW cs) A) (X : Scr s A b L xs) (hL : L < 2 ^ 31) {σ τ : Nat → Nat → Int32} (h : Rel σ τ) {i : Nat} (hi : i + 4 < L) (k : ∀ σ2 τ2, Rel σ2 τ2 → VN p l e room_1 s m args below meth c Q D A 4 78 1876 (wX cs hx σ2 ++ wM cs hm τ2) 1648 [(3, .int (nI i)), (2, .ref (hm 0)), (1, .ref (hx 0)), (0, .ref b)] []) : VN p l e room_1 s m args below meth c Q D A 4 78 1876 (wX cs hx σ ++ wM cs hm τ) 1275 [(3, .int (nI i)), (2, .ref (hm 0)), (1, .ref (hx 0)), (0, .ref b)] [] := by
  obtain ⟨n, rr⟩ := h.row
  have ho := o_minds h rr ((xs (i + 1))) ((xs (i + 2))) ((xs (i + 3))) ((xs (i + 4)))
  refine n_aload_n (pc := 1275) C 2 dL_law_1275 rfl rfl ?_
  refine n_aload_n (pc := 1276) C 3 dL_law_1276 rfl rfl ?_
  refine n_iload_n (pc := 1277) C 0 dL_law_1277 rfl rfl ?_
  refine n_iconst (pc := 1278) C (nI 1) dL_law_1278 (by decide) ?_
  refine n_iadd (pc := 1279) C dL_law_1279 ?_
  refine n_sld (pc := 1280) C X (i + 1) (nI_add i 1) (by omega) hL dL_law_1280 ?_
  refine n_aload_n (pc := 1281) C 3 dL_law_1281 rfl rfl ?_
  refine n_iload_n (pc := 1282) C 0 dL_law_1282 rfl rfl ?_
  refine n_iconst (pc := 1283) C (nI 2) dL_law_1283 (by decide) ?_
  refine n_iadd (pc := 1284) C dL_law_1284 ?_
  refine n_sld (pc := 1285) C X (i + 2) (nI_add i 2) (by omega) hL dL_law_1285 ?_
  refine n_aload_n (pc := 1286) C 3 dL_law_1286 rfl rfl ?_
  refine n_iload_n (pc := 1287) C 0 dL_law_1287 rfl rfl ?_
  refine n_iconst (pc := 1288) C (nI 3) dL_law_1288 (by decide) ?_
  refine n_iadd (pc := 1289) C dL_law_1289 ?_
  refine n_sld (pc := 1290) C X (i + 3) (nI_add i 3) (by omega) hL dL_law_1290 ?_
  refine n_aload_n (pc := 1291) C 3 dL_law_1291 rfl rfl ?_
  refine n_iload_n (pc := 1292) C 0 dL_law_1292 rfl rfl ?_
  refine n_iconst (pc := 1293) C (nI 4) dL_law_1293 (by decide) ?_
  refine n_iadd (pc := 1294) C dL_law_1294 ?_
  refine n_sld (pc := 1295) C X (i + 4) (nI_add i 4) (by omega) hL dL_law_1295 ?_
  refine n_Vi (pc := 1296) C (As := [.int (xs (i + 1)), .int (xs (i + 2)), .int (xs (i + 3)), .int (xs (i + 4))]) (rest := []) (b := hx 0) (ci := 5) (q0 := 0) (w' := wX cs hx (su σ 0 (gateF ((inB ((xs (i + 1))) 0 3 && (oneB n ((xs (i + 3))) && (inB ((xs (i + 4))) 0 8 && decide (((xs (i + 3))).toNatClampNeg + ((xs (i + 4))).toNatClampNeg ≤ n)))) && (decide (lkF (σ 15) ((xs (i + 1))).toNatClampNeg 0 = 0) && (inB ((xs (i + 2))) 0 (σ 16 ((xs (i + 1))).toNatClampNeg) && decide (((xs (i + 2))).toNatClampNeg + ((xs (i + 4))).toNatClampNeg ≤ (σ 16 ((xs (i + 1))).toNatClampNeg).toNatClampNeg)))) (mdN (σ 0) (σ 17) ((xs (i + 3))).toNatClampNeg (40 * ((xs (i + 1))).toNatClampNeg + ((xs (i + 2))).toNatClampNeg) ((xs (i + 4))).toNatClampNeg) (σ 0))) ++ wM cs hm τ) (t_X5_minds l ad D cs hx σ [] (wM cs hm τ) n ((xs (i + 1))) ((xs (i + 2))) ((xs (i + 3))) ((xs (i + 4))) rr.h0 rr.hn rr.rg h.siz h.sor) mv_X5_minds ml_RL_155 rfl ⟨(Nat.le_of_ble_eq_true rfl), (Nat.le_of_ble_eq_true rfl)⟩ ⟨rfl, rfl⟩ rfl rfl rfl rfl rfl rfl (Nat.le_of_ble_eq_true rfl) dL_law_1296 (Nat.le_of_ble_eq_true rfl) (Nat.le_of_ble_eq_true rfl) ?_
  refine n_aload_n (pc := 1299) C 1 dL_law_1299 rfl rfl ?_
  refine n_aload_n (pc := 1300) C 3 dL_law_1300 rfl rfl ?_
  refine n_iload_n (pc := 1301) C 0 dL_law_1301 rfl rfl ?_
  refine n_iconst (pc := 1302) C (nI 1) dL_law_1302 (by decide) ?_
  refine n_iadd (pc := 1303) C dL_law_1303 ?_
  refine n_sld (pc := 1304) C X (i + 1) (nI_add i 1) (by omega) hL dL_law_1304 ?_
  refine n_aload_n (pc := 1305) C 3 dL_law_1305 rfl rfl ?_
  refine n_iload_n (pc := 1306) C 0 dL_law_1306 rfl rfl ?_
  refine n_iconst (pc := 1307) C (nI 2) dL_law_1307 (by decide) ?_
  refine n_iadd (pc := 1308) C dL_law_1308 ?_
  refine n_sld (pc := 1309) C X (i + 2) (nI_add i 2) (by omega) hL dL_law_1309 ?_
  refine n_aload_n (pc := 1310) C 3 dL_law_1310 rfl rfl ?_
  refine n_iload_n (pc := 1311) C 0 dL_law_1311 rfl rfl ?_
  refine n_iconst (pc := 1312) C (nI 3) dL_law_1312 (by decide) ?_
  refine n_iadd (pc := 1313) C dL_law_1313 ?_
  refine n_sld (pc := 1314) C X (i + 3) (nI_add i 3) (by omega) hL dL_law_1314 ?_
  refine n_aload_n (pc := 1315) C 3 dL_law_1315 rfl rfl ?_
  refine n_iload_n (pc := 1316) C 0 dL_law_1316 rfl rfl ?_
  refine n_iconst (pc := 1317) C (nI 4) dL_law_1317 (by decide) ?_
  refine n_iadd (pc := 1318) C dL_law_1318 ?_
  refine n_sld (pc := 1319) C X (i + 4) (nI_add i 4) (by omega) hL dL_law_1319 ?_
  refine n_Vi (pc := 1320) C (As := [.int (xs (i + 1)), .int (xs (i + 2)), .int (xs (i + 3)), .int (xs (i + 4))]) (rest := [.int _]) (b := hm 0) (ci := 6) (q0 := 0) (w' := wX cs hx (su σ 0 (gateF ((inB ((xs (i + 1))) 0 3 && (oneB n ((xs (i + 3))) && (inB ((xs (i + 4))) 0 8 && decide (((xs (i + 3))).toNatClampNeg + ((xs (i + 4))).toNatClampNeg ≤ n)))) && (decide (lkF (σ 15) ((xs (i + 1))).toNatClampNeg 0 = 0) && (inB ((xs (i + 2))) 0 (σ 16 ((xs (i + 1))).toNatClampNeg) && decide (((xs (i + 2))).toNatClampNeg + ((xs (i + 4))).toNatClampNeg ≤ (σ 16 ((xs (i + 1))).toNatClampNeg).toNatClampNeg)))) (mdN (σ 0) (σ 17) ((xs (i + 3))).toNatClampNeg (40 * ((xs (i + 1))).toNatClampNeg + ((xs (i + 2))).toNatClampNeg) ((xs (i + 4))).toNatClampNeg) (σ 0))) ++ wM cs hm (su τ 0 (gateF ((inB ((xs (i + 1))) 0 3 && (oneB n ((xs (i + 3))) && (inB ((xs (i + 4))) 0 8 && decide (((xs (i + 3))).toNatClampNeg + ((xs (i + 4))).toNatClampNeg ≤ n)))) && (decide (lkF (τ 15) ((xs (i + 1))).toNatClampNeg 0 = 0) && (inB ((xs (i + 2))) 0 (τ 16 ((xs (i + 1))).toNatClampNeg) && decide (((xs (i + 2))).toNatClampNeg + ((xs (i + 4))).toNatClampNeg ≤ (τ 16 ((xs (i + 1))).toNatClampNeg).toNatClampNeg)))) (mdN (τ 0) (τ 17) ((xs (i + 3))).toNatClampNeg (40 * ((xs (i + 1))).toNatClampNeg + ((xs (i + 2))).toNatClampNeg) ((xs (i + 4))).toNatClampNeg) (τ 0)))) (t_X6_minds l ad D cs hm τ (wX cs hx (su σ 0 (gateF ((inB ((xs (i + 1))) 0 3 && (oneB n ((xs (i + 3))) && (inB ((xs (i + 4))) 0 8 && decide (((xs (i + 3))).toNatClampNeg + ((xs (i + 4))).toNatClampNeg ≤ n)))) && (decide (lkF (σ 15) ((xs (i + 1))).toNatClampNeg 0 = 0) && (inB ((xs (i + 2))) 0 (σ 16 ((xs (i + 1))).toNatClampNeg) && decide (((xs (i + 2))).toNatClampNeg + ((xs (i + 4))).toNatClampNeg ≤ (σ 16 ((xs (i + 1))).toNatClampNeg).toNatClampNeg)))) (mdN (σ 0) (σ 17) ((xs (i + 3))).toNatClampNeg (40 * ((xs (i + 1))).toNatClampNeg + ((xs (i + 2))).toNatClampNeg) ((xs (i + 4))).toNatClampNeg) (σ 0)))) [] n ((xs (i + 1))) ((xs (i + 2))) ((xs (i + 3))) ((xs (i + 4))) rr.h0' rr.hn (by rw [← h.si]; exact h.siz)) mv_X6_minds ml_RL_158 rfl ⟨(Nat.le_of_ble_eq_true rfl), (Nat.le_of_ble_eq_true rfl)⟩ ⟨rfl, rfl⟩ rfl rfl rfl (by rw [List.append_nil]) (by rw [List.append_nil]) rfl (Nat.le_of_ble_eq_true rfl) dL_law_1320 (Nat.le_of_ble_eq_true rfl) (Nat.le_of_ble_eq_true rfl) ?_
  refine n_icmp_eq (pc := 1323) C 1648 dL_law_1323 (by decide) (fun _ => k _ _ ho.2) (fun hne => absurd ho.1 hne)
theorem dL_law_1328 : decode cL_law 1328 = .ok (.aload_n 1, 1) := by decide +kernel
theorem dL_law_1329 : decode cL_law 1329 = .ok (.aload_n 0, 1) := by decide +kernel
theorem dL_law_1330 : decode cL_law 1330 = .ok (.iload_n 3, 1) := by decide +kernel
theorem dL_law_1331 : decode cL_law 1331 = .ok (.iconst 1, 1) := by decide +kernel
theorem dL_law_1332 : decode cL_law 1332 = .ok (.iadd, 1) := by decide +kernel
theorem dL_law_1333 : decode cL_law 1333 = .ok (.iaload, 1) := by decide +kernel
theorem dL_law_1334 : decode cL_law 1334 = .ok (.aload_n 0, 1) := by decide +kernel
theorem dL_law_1335 : decode cL_law 1335 = .ok (.iload_n 3, 1) := by decide +kernel
theorem dL_law_1336 : decode cL_law 1336 = .ok (.iconst 2, 1) := by decide +kernel
theorem dL_law_1337 : decode cL_law 1337 = .ok (.iadd, 1) := by decide +kernel
theorem dL_law_1338 : decode cL_law 1338 = .ok (.iaload, 1) := by decide +kernel
theorem dL_law_1339 : decode cL_law 1339 = .ok (.aload_n 0, 1) := by decide +kernel
theorem dL_law_1340 : decode cL_law 1340 = .ok (.iload_n 3, 1) := by decide +kernel
theorem dL_law_1341 : decode cL_law 1341 = .ok (.iconst 3, 1) := by decide +kernel
theorem dL_law_1342 : decode cL_law 1342 = .ok (.iadd, 1) := by decide +kernel
theorem dL_law_1343 : decode cL_law 1343 = .ok (.iaload, 1) := by decide +kernel
theorem dL_law_1344 : decode cL_law 1344 = .ok (.invokevirtual 159, 3) := by decide +kernel
theorem dL_law_1347 : decode cL_law 1347 = .ok (.aload_n 2, 1) := by decide +kernel
theorem dL_law_1348 : decode cL_law 1348 = .ok (.aload_n 0, 1) := by decide +kernel
theorem dL_law_1349 : decode cL_law 1349 = .ok (.iload_n 3, 1) := by decide +kernel
theorem dL_law_1350 : decode cL_law 1350 = .ok (.iconst 1, 1) := by decide +kernel
theorem dL_law_1351 : decode cL_law 1351 = .ok (.iadd, 1) := by decide +kernel
theorem dL_law_1352 : decode cL_law 1352 = .ok (.iaload, 1) := by decide +kernel
theorem dL_law_1353 : decode cL_law 1353 = .ok (.aload_n 0, 1) := by decide +kernel
theorem dL_law_1354 : decode cL_law 1354 = .ok (.iload_n 3, 1) := by decide +kernel
theorem dL_law_1355 : decode cL_law 1355 = .ok (.iconst 2, 1) := by decide +kernel
theorem dL_law_1356 : decode cL_law 1356 = .ok (.iadd, 1) := by decide +kernel
theorem dL_law_1357 : decode cL_law 1357 = .ok (.iaload, 1) := by decide +kernel
theorem dL_law_1358 : decode cL_law 1358 = .ok (.aload_n 0, 1) := by decide +kernel
theorem dL_law_1359 : decode cL_law 1359 = .ok (.iload_n 3, 1) := by decide +kernel
theorem dL_law_1360 : decode cL_law 1360 = .ok (.iconst 3, 1) := by decide +kernel
theorem dL_law_1361 : decode cL_law 1361 = .ok (.iadd, 1) := by decide +kernel
theorem dL_law_1362 : decode cL_law 1362 = .ok (.iaload, 1) := by decide +kernel
theorem dL_law_1363 : decode cL_law 1363 = .ok (.invokevirtual 162, 3) := by decide +kernel
theorem dL_law_1366 : decode cL_law 1366 = .ok (.if_icmp .eq 282, 3) := by decide +kernel
set_option maxHeartbeats 4000000 in
set_option maxRecDepth 20000 in
theorem lo_sheet {p : Program} {l : Launch} {e : Env} {s : State} {m : MethodId} {args : Array Value} {below : List Frame} {meth : Method} {c : Code} {Q : State → Prop} {ad : Nat → Nat} {D : va_G} {cs : Nat → ClassId} {A : Nat → Prop} {hx hm : Nat → Nat} {b L : Nat} {xs : Nat → Int32} (C : Cx p s m args c cL_law 4 RL ad D (tysW cs) A) (X : Scr s A b L xs) (hL : L < 2 ^ 31) {σ τ : Nat → Nat → Int32} (h : Rel σ τ) {i : Nat} (hi : i + 4 < L) (k : ∀ σ2 τ2, Rel σ2 τ2 → VN p l e room_1 s m args below meth c Q D A 4 78 1876 (wX cs hx σ2 ++ wM cs hm τ2) 1648 [(3, .int (nI i)), (2, .ref (hm 0)), (1, .ref (hx 0)), (0, .ref b)] []) : VN p l e room_1 s m args below meth c Q D A 4 78 1876 (wX cs hx σ ++ wM cs hm τ) 1328 [(3, .int (nI i)), (2, .ref (hm 0)), (1, .ref (hx 0)), (0, .ref b)] [] := by
  obtain ⟨n, rr⟩ := h.row
  have ho := o_sheet h rr ((xs (i + 1))) ((xs (i + 2))) ((xs (i + 3)))
  refine n_aload_n (pc := 1328) C 2 dL_law_1328 rfl rfl ?_
  refine n_aload_n (pc := 1329) C 3 dL_law_1329 rfl rfl ?_
  refine n_iload_n (pc := 1330) C 0 dL_law_1330 rfl rfl ?_
  refine n_iconst (pc := 1331) C (nI 1) dL_law_1331 (by decide) ?_
  refine n_iadd (pc := 1332) C dL_law_1332 ?_
  refine n_sld (pc := 1333) C X (i + 1) (nI_add i 1) (by omega) hL dL_law_1333 ?_
  refine n_aload_n (pc := 1334) C 3 dL_law_1334 rfl rfl ?_
  refine n_iload_n (pc := 1335) C 0 dL_law_1335 rfl rfl ?_
  refine n_iconst (pc := 1336) C (nI 2) dL_law_1336 (by decide) ?_
  refine n_iadd (pc := 1337) C dL_law_1337 ?_
  refine n_sld (pc := 1338) C X (i + 2) (nI_add i 2) (by omega) hL dL_law_1338 ?_
  refine n_aload_n (pc := 1339) C 3 dL_law_1339 rfl rfl ?_
  refine n_iload_n (pc := 1340) C 0 dL_law_1340 rfl rfl ?_
  refine n_iconst (pc := 1341) C (nI 3) dL_law_1341 (by decide) ?_
  refine n_iadd (pc := 1342) C dL_law_1342 ?_
  refine n_sld (pc := 1343) C X (i + 3) (nI_add i 3) (by omega) hL dL_law_1343 ?_
  refine n_Vi (pc := 1344) C (As := [.int (xs (i + 1)), .int (xs (i + 2)), .int (xs (i + 3))]) (rest := []) (b := hx 0) (ci := 5) (q0 := 0) (w' := wX cs hx (su (su (su σ 15 (gateF (sheC ((xs (i + 1))) ((xs (i + 2))) ((xs (i + 3)))) (upd (σ 15) ((xs (i + 1))).toNatClampNeg ((xs (i + 2)))) (σ 15))) 16 (gateF (sheC ((xs (i + 1))) ((xs (i + 2))) ((xs (i + 3)))) (upd (σ 16) ((xs (i + 1))).toNatClampNeg (if ((xs (i + 2))) < 0 then 0 else ((xs (i + 3))))) (σ 16))) 17 (gateF (sheC ((xs (i + 1))) ((xs (i + 2))) ((xs (i + 3)))) (zrN (σ 17) ((xs (i + 1))).toNatClampNeg 40) (σ 17))) ++ wM cs hm τ) (t_X5_sheet l ad D cs hx σ [] (wM cs hm τ) n ((xs (i + 1))) ((xs (i + 2))) ((xs (i + 3))) rr.h0 rr.hn rr.rg) mv_X5_sheet ml_RL_159 rfl ⟨(Nat.le_of_ble_eq_true rfl), (Nat.le_of_ble_eq_true rfl)⟩ ⟨rfl, rfl⟩ rfl rfl rfl rfl rfl rfl (Nat.le_of_ble_eq_true rfl) dL_law_1344 (Nat.le_of_ble_eq_true rfl) (Nat.le_of_ble_eq_true rfl) ?_
  refine n_aload_n (pc := 1347) C 1 dL_law_1347 rfl rfl ?_
  refine n_aload_n (pc := 1348) C 3 dL_law_1348 rfl rfl ?_
  refine n_iload_n (pc := 1349) C 0 dL_law_1349 rfl rfl ?_
  refine n_iconst (pc := 1350) C (nI 1) dL_law_1350 (by decide) ?_
  refine n_iadd (pc := 1351) C dL_law_1351 ?_
  refine n_sld (pc := 1352) C X (i + 1) (nI_add i 1) (by omega) hL dL_law_1352 ?_
  refine n_aload_n (pc := 1353) C 3 dL_law_1353 rfl rfl ?_
  refine n_iload_n (pc := 1354) C 0 dL_law_1354 rfl rfl ?_
  refine n_iconst (pc := 1355) C (nI 2) dL_law_1355 (by decide) ?_
  refine n_iadd (pc := 1356) C dL_law_1356 ?_
  refine n_sld (pc := 1357) C X (i + 2) (nI_add i 2) (by omega) hL dL_law_1357 ?_
  refine n_aload_n (pc := 1358) C 3 dL_law_1358 rfl rfl ?_
  refine n_iload_n (pc := 1359) C 0 dL_law_1359 rfl rfl ?_
  refine n_iconst (pc := 1360) C (nI 3) dL_law_1360 (by decide) ?_
  refine n_iadd (pc := 1361) C dL_law_1361 ?_
  refine n_sld (pc := 1362) C X (i + 3) (nI_add i 3) (by omega) hL dL_law_1362 ?_
  refine n_Vi (pc := 1363) C (As := [.int (xs (i + 1)), .int (xs (i + 2)), .int (xs (i + 3))]) (rest := [.int _]) (b := hm 0) (ci := 6) (q0 := 0) (w' := wX cs hx (su (su (su σ 15 (gateF (sheC ((xs (i + 1))) ((xs (i + 2))) ((xs (i + 3)))) (upd (σ 15) ((xs (i + 1))).toNatClampNeg ((xs (i + 2)))) (σ 15))) 16 (gateF (sheC ((xs (i + 1))) ((xs (i + 2))) ((xs (i + 3)))) (upd (σ 16) ((xs (i + 1))).toNatClampNeg (if ((xs (i + 2))) < 0 then 0 else ((xs (i + 3))))) (σ 16))) 17 (gateF (sheC ((xs (i + 1))) ((xs (i + 2))) ((xs (i + 3)))) (zrN (σ 17) ((xs (i + 1))).toNatClampNeg 40) (σ 17))) ++ wM cs hm (su (su (su τ 15 (gateF (sheC ((xs (i + 1))) ((xs (i + 2))) ((xs (i + 3)))) (upd (τ 15) ((xs (i + 1))).toNatClampNeg ((xs (i + 2)))) (τ 15))) 16 (gateF (sheC ((xs (i + 1))) ((xs (i + 2))) ((xs (i + 3)))) (upd (τ 16) ((xs (i + 1))).toNatClampNeg (if ((xs (i + 2))) < 0 then 0 else ((xs (i + 3))))) (τ 16))) 17 (gateF (sheC ((xs (i + 1))) ((xs (i + 2))) ((xs (i + 3)))) (zrN (τ 17) ((xs (i + 1))).toNatClampNeg 40) (τ 17)))) (t_X6_sheet l ad D cs hm τ (wX cs hx (su (su (su σ 15 (gateF (sheC ((xs (i + 1))) ((xs (i + 2))) ((xs (i + 3)))) (upd (σ 15) ((xs (i + 1))).toNatClampNeg ((xs (i + 2)))) (σ 15))) 16 (gateF (sheC ((xs (i + 1))) ((xs (i + 2))) ((xs (i + 3)))) (upd (σ 16) ((xs (i + 1))).toNatClampNeg (if ((xs (i + 2))) < 0 then 0 else ((xs (i + 3))))) (σ 16))) 17 (gateF (sheC ((xs (i + 1))) ((xs (i + 2))) ((xs (i + 3)))) (zrN (σ 17) ((xs (i + 1))).toNatClampNeg 40) (σ 17)))) [] n ((xs (i + 1))) ((xs (i + 2))) ((xs (i + 3))) rr.h0' rr.hn) mv_X6_sheet ml_RL_162 rfl ⟨(Nat.le_of_ble_eq_true rfl), (Nat.le_of_ble_eq_true rfl)⟩ ⟨rfl, rfl⟩ rfl rfl rfl (by rw [List.append_nil]) (by rw [List.append_nil]) rfl (Nat.le_of_ble_eq_true rfl) dL_law_1363 (Nat.le_of_ble_eq_true rfl) (Nat.le_of_ble_eq_true rfl) ?_
  refine n_icmp_eq (pc := 1366) C 1648 dL_law_1366 (by decide) (fun _ => k _ _ ho.2) (fun hne => absurd ho.1 hne)
theorem dL_law_1371 : decode cL_law 1371 = .ok (.aload_n 1, 1) := by decide +kernel
theorem dL_law_1372 : decode cL_law 1372 = .ok (.aload_n 0, 1) := by decide +kernel
theorem dL_law_1373 : decode cL_law 1373 = .ok (.iload_n 3, 1) := by decide +kernel
theorem dL_law_1374 : decode cL_law 1374 = .ok (.iconst 1, 1) := by decide +kernel
theorem dL_law_1375 : decode cL_law 1375 = .ok (.iadd, 1) := by decide +kernel
theorem dL_law_1376 : decode cL_law 1376 = .ok (.iaload, 1) := by decide +kernel
theorem dL_law_1377 : decode cL_law 1377 = .ok (.aload_n 0, 1) := by decide +kernel
theorem dL_law_1378 : decode cL_law 1378 = .ok (.iload_n 3, 1) := by decide +kernel
theorem dL_law_1379 : decode cL_law 1379 = .ok (.iconst 2, 1) := by decide +kernel
theorem dL_law_1380 : decode cL_law 1380 = .ok (.iadd, 1) := by decide +kernel
theorem dL_law_1381 : decode cL_law 1381 = .ok (.iaload, 1) := by decide +kernel
theorem dL_law_1382 : decode cL_law 1382 = .ok (.aload_n 0, 1) := by decide +kernel
theorem dL_law_1383 : decode cL_law 1383 = .ok (.iload_n 3, 1) := by decide +kernel
theorem dL_law_1384 : decode cL_law 1384 = .ok (.iconst 3, 1) := by decide +kernel
theorem dL_law_1385 : decode cL_law 1385 = .ok (.iadd, 1) := by decide +kernel
theorem dL_law_1386 : decode cL_law 1386 = .ok (.iaload, 1) := by decide +kernel
theorem dL_law_1387 : decode cL_law 1387 = .ok (.invokevirtual 163, 3) := by decide +kernel
theorem dL_law_1390 : decode cL_law 1390 = .ok (.aload_n 2, 1) := by decide +kernel
theorem dL_law_1391 : decode cL_law 1391 = .ok (.aload_n 0, 1) := by decide +kernel
theorem dL_law_1392 : decode cL_law 1392 = .ok (.iload_n 3, 1) := by decide +kernel
theorem dL_law_1393 : decode cL_law 1393 = .ok (.iconst 1, 1) := by decide +kernel
theorem dL_law_1394 : decode cL_law 1394 = .ok (.iadd, 1) := by decide +kernel
theorem dL_law_1395 : decode cL_law 1395 = .ok (.iaload, 1) := by decide +kernel
theorem dL_law_1396 : decode cL_law 1396 = .ok (.aload_n 0, 1) := by decide +kernel
theorem dL_law_1397 : decode cL_law 1397 = .ok (.iload_n 3, 1) := by decide +kernel
theorem dL_law_1398 : decode cL_law 1398 = .ok (.iconst 2, 1) := by decide +kernel
theorem dL_law_1399 : decode cL_law 1399 = .ok (.iadd, 1) := by decide +kernel
theorem dL_law_1400 : decode cL_law 1400 = .ok (.iaload, 1) := by decide +kernel
theorem dL_law_1401 : decode cL_law 1401 = .ok (.aload_n 0, 1) := by decide +kernel
theorem dL_law_1402 : decode cL_law 1402 = .ok (.iload_n 3, 1) := by decide +kernel
theorem dL_law_1403 : decode cL_law 1403 = .ok (.iconst 3, 1) := by decide +kernel
theorem dL_law_1404 : decode cL_law 1404 = .ok (.iadd, 1) := by decide +kernel
theorem dL_law_1405 : decode cL_law 1405 = .ok (.iaload, 1) := by decide +kernel
theorem dL_law_1406 : decode cL_law 1406 = .ok (.invokevirtual 166, 3) := by decide +kernel
theorem dL_law_1409 : decode cL_law 1409 = .ok (.if_icmp .eq 239, 3) := by decide +kernel
set_option maxHeartbeats 4000000 in
set_option maxRecDepth 20000 in
theorem lo_put {p : Program} {l : Launch} {e : Env} {s : State} {m : MethodId} {args : Array Value} {below : List Frame} {meth : Method} {c : Code} {Q : State → Prop} {ad : Nat → Nat} {D : va_G} {cs : Nat → ClassId} {A : Nat → Prop} {hx hm : Nat → Nat} {b L : Nat} {xs : Nat → Int32} (C : Cx p s m args c cL_law 4 RL ad D (tysW cs) A) (X : Scr s A b L xs) (hL : L < 2 ^ 31) {σ τ : Nat → Nat → Int32} (h : Rel σ τ) {i : Nat} (hi : i + 4 < L) (k : ∀ σ2 τ2, Rel σ2 τ2 → VN p l e room_1 s m args below meth c Q D A 4 78 1876 (wX cs hx σ2 ++ wM cs hm τ2) 1648 [(3, .int (nI i)), (2, .ref (hm 0)), (1, .ref (hx 0)), (0, .ref b)] []) : VN p l e room_1 s m args below meth c Q D A 4 78 1876 (wX cs hx σ ++ wM cs hm τ) 1371 [(3, .int (nI i)), (2, .ref (hm 0)), (1, .ref (hx 0)), (0, .ref b)] [] := by
  obtain ⟨n, rr⟩ := h.row
  have ho := o_put h rr ((xs (i + 1))) ((xs (i + 2))) ((xs (i + 3)))
  refine n_aload_n (pc := 1371) C 2 dL_law_1371 rfl rfl ?_
  refine n_aload_n (pc := 1372) C 3 dL_law_1372 rfl rfl ?_
  refine n_iload_n (pc := 1373) C 0 dL_law_1373 rfl rfl ?_
  refine n_iconst (pc := 1374) C (nI 1) dL_law_1374 (by decide) ?_
  refine n_iadd (pc := 1375) C dL_law_1375 ?_
  refine n_sld (pc := 1376) C X (i + 1) (nI_add i 1) (by omega) hL dL_law_1376 ?_
  refine n_aload_n (pc := 1377) C 3 dL_law_1377 rfl rfl ?_
  refine n_iload_n (pc := 1378) C 0 dL_law_1378 rfl rfl ?_
  refine n_iconst (pc := 1379) C (nI 2) dL_law_1379 (by decide) ?_
  refine n_iadd (pc := 1380) C dL_law_1380 ?_
  refine n_sld (pc := 1381) C X (i + 2) (nI_add i 2) (by omega) hL dL_law_1381 ?_
  refine n_aload_n (pc := 1382) C 3 dL_law_1382 rfl rfl ?_
  refine n_iload_n (pc := 1383) C 0 dL_law_1383 rfl rfl ?_
  refine n_iconst (pc := 1384) C (nI 3) dL_law_1384 (by decide) ?_
  refine n_iadd (pc := 1385) C dL_law_1385 ?_
  refine n_sld (pc := 1386) C X (i + 3) (nI_add i 3) (by omega) hL dL_law_1386 ?_
  refine n_Vi (pc := 1387) C (As := [.int (xs (i + 1)), .int (xs (i + 2)), .int (xs (i + 3))]) (rest := []) (b := hx 0) (ci := 5) (q0 := 0) (w' := wX cs hx (su σ 17 (gateF (inB ((xs (i + 1))) 0 3 && (decide (0 ≤ σ 15 ((xs (i + 1))).toNatClampNeg) && inB ((xs (i + 2))) 0 (σ 16 ((xs (i + 1))).toNatClampNeg - 1))) (upd (σ 17) (40 * ((xs (i + 1))).toNatClampNeg + ((xs (i + 2))).toNatClampNeg) (narF (σ 15 ((xs (i + 1))).toNatClampNeg) ((xs (i + 3))))) (σ 17))) ++ wM cs hm τ) (t_X5_put l ad D cs hx σ [] (wM cs hm τ) n ((xs (i + 1))) ((xs (i + 2))) ((xs (i + 3))) rr.h0 rr.hn rr.rg h.siz h.sor) mv_X5_put ml_RL_163 rfl ⟨(Nat.le_of_ble_eq_true rfl), (Nat.le_of_ble_eq_true rfl)⟩ ⟨rfl, rfl⟩ rfl rfl rfl rfl rfl rfl (Nat.le_of_ble_eq_true rfl) dL_law_1387 (Nat.le_of_ble_eq_true rfl) (Nat.le_of_ble_eq_true rfl) ?_
  refine n_aload_n (pc := 1390) C 1 dL_law_1390 rfl rfl ?_
  refine n_aload_n (pc := 1391) C 3 dL_law_1391 rfl rfl ?_
  refine n_iload_n (pc := 1392) C 0 dL_law_1392 rfl rfl ?_
  refine n_iconst (pc := 1393) C (nI 1) dL_law_1393 (by decide) ?_
  refine n_iadd (pc := 1394) C dL_law_1394 ?_
  refine n_sld (pc := 1395) C X (i + 1) (nI_add i 1) (by omega) hL dL_law_1395 ?_
  refine n_aload_n (pc := 1396) C 3 dL_law_1396 rfl rfl ?_
  refine n_iload_n (pc := 1397) C 0 dL_law_1397 rfl rfl ?_
  refine n_iconst (pc := 1398) C (nI 2) dL_law_1398 (by decide) ?_
  refine n_iadd (pc := 1399) C dL_law_1399 ?_
  refine n_sld (pc := 1400) C X (i + 2) (nI_add i 2) (by omega) hL dL_law_1400 ?_
  refine n_aload_n (pc := 1401) C 3 dL_law_1401 rfl rfl ?_
  refine n_iload_n (pc := 1402) C 0 dL_law_1402 rfl rfl ?_
  refine n_iconst (pc := 1403) C (nI 3) dL_law_1403 (by decide) ?_
  refine n_iadd (pc := 1404) C dL_law_1404 ?_
  refine n_sld (pc := 1405) C X (i + 3) (nI_add i 3) (by omega) hL dL_law_1405 ?_
  refine n_Vi (pc := 1406) C (As := [.int (xs (i + 1)), .int (xs (i + 2)), .int (xs (i + 3))]) (rest := [.int _]) (b := hm 0) (ci := 6) (q0 := 0) (w' := wX cs hx (su σ 17 (gateF (inB ((xs (i + 1))) 0 3 && (decide (0 ≤ σ 15 ((xs (i + 1))).toNatClampNeg) && inB ((xs (i + 2))) 0 (σ 16 ((xs (i + 1))).toNatClampNeg - 1))) (upd (σ 17) (40 * ((xs (i + 1))).toNatClampNeg + ((xs (i + 2))).toNatClampNeg) (narF (σ 15 ((xs (i + 1))).toNatClampNeg) ((xs (i + 3))))) (σ 17))) ++ wM cs hm (su τ 17 (gateF (inB ((xs (i + 1))) 0 3 && (decide (0 ≤ τ 15 ((xs (i + 1))).toNatClampNeg) && inB ((xs (i + 2))) 0 (τ 16 ((xs (i + 1))).toNatClampNeg - 1))) (upd (τ 17) (40 * ((xs (i + 1))).toNatClampNeg + ((xs (i + 2))).toNatClampNeg) (narF (τ 15 ((xs (i + 1))).toNatClampNeg) ((xs (i + 3))))) (τ 17)))) (t_X6_put l ad D cs hm τ (wX cs hx (su σ 17 (gateF (inB ((xs (i + 1))) 0 3 && (decide (0 ≤ σ 15 ((xs (i + 1))).toNatClampNeg) && inB ((xs (i + 2))) 0 (σ 16 ((xs (i + 1))).toNatClampNeg - 1))) (upd (σ 17) (40 * ((xs (i + 1))).toNatClampNeg + ((xs (i + 2))).toNatClampNeg) (narF (σ 15 ((xs (i + 1))).toNatClampNeg) ((xs (i + 3))))) (σ 17)))) [] n ((xs (i + 1))) ((xs (i + 2))) ((xs (i + 3))) rr.h0' rr.hn (by rw [← h.si]; exact h.siz)) mv_X6_put ml_RL_166 rfl ⟨(Nat.le_of_ble_eq_true rfl), (Nat.le_of_ble_eq_true rfl)⟩ ⟨rfl, rfl⟩ rfl rfl rfl (by rw [List.append_nil]) (by rw [List.append_nil]) rfl (Nat.le_of_ble_eq_true rfl) dL_law_1406 (Nat.le_of_ble_eq_true rfl) (Nat.le_of_ble_eq_true rfl) ?_
  refine n_icmp_eq (pc := 1409) C 1648 dL_law_1409 (by decide) (fun _ => k _ _ ho.2) (fun hne => absurd ho.1 hne)
theorem dL_law_1414 : decode cL_law 1414 = .ok (.aload_n 1, 1) := by decide +kernel
theorem dL_law_1415 : decode cL_law 1415 = .ok (.aload_n 0, 1) := by decide +kernel
theorem dL_law_1416 : decode cL_law 1416 = .ok (.iload_n 3, 1) := by decide +kernel
theorem dL_law_1417 : decode cL_law 1417 = .ok (.iconst 1, 1) := by decide +kernel
theorem dL_law_1418 : decode cL_law 1418 = .ok (.iadd, 1) := by decide +kernel
theorem dL_law_1419 : decode cL_law 1419 = .ok (.iaload, 1) := by decide +kernel
theorem dL_law_1420 : decode cL_law 1420 = .ok (.aload_n 0, 1) := by decide +kernel
theorem dL_law_1421 : decode cL_law 1421 = .ok (.iload_n 3, 1) := by decide +kernel
theorem dL_law_1422 : decode cL_law 1422 = .ok (.iconst 2, 1) := by decide +kernel
theorem dL_law_1423 : decode cL_law 1423 = .ok (.iadd, 1) := by decide +kernel
theorem dL_law_1424 : decode cL_law 1424 = .ok (.iaload, 1) := by decide +kernel
theorem dL_law_1425 : decode cL_law 1425 = .ok (.aload_n 0, 1) := by decide +kernel
theorem dL_law_1426 : decode cL_law 1426 = .ok (.iload_n 3, 1) := by decide +kernel
theorem dL_law_1427 : decode cL_law 1427 = .ok (.iconst 3, 1) := by decide +kernel
theorem dL_law_1428 : decode cL_law 1428 = .ok (.iadd, 1) := by decide +kernel
theorem dL_law_1429 : decode cL_law 1429 = .ok (.iaload, 1) := by decide +kernel
theorem dL_law_1430 : decode cL_law 1430 = .ok (.invokevirtual 167, 3) := by decide +kernel
theorem dL_law_1433 : decode cL_law 1433 = .ok (.aload_n 2, 1) := by decide +kernel
theorem dL_law_1434 : decode cL_law 1434 = .ok (.aload_n 0, 1) := by decide +kernel
theorem dL_law_1435 : decode cL_law 1435 = .ok (.iload_n 3, 1) := by decide +kernel
theorem dL_law_1436 : decode cL_law 1436 = .ok (.iconst 1, 1) := by decide +kernel
theorem dL_law_1437 : decode cL_law 1437 = .ok (.iadd, 1) := by decide +kernel
theorem dL_law_1438 : decode cL_law 1438 = .ok (.iaload, 1) := by decide +kernel
theorem dL_law_1439 : decode cL_law 1439 = .ok (.aload_n 0, 1) := by decide +kernel
theorem dL_law_1440 : decode cL_law 1440 = .ok (.iload_n 3, 1) := by decide +kernel
theorem dL_law_1441 : decode cL_law 1441 = .ok (.iconst 2, 1) := by decide +kernel
theorem dL_law_1442 : decode cL_law 1442 = .ok (.iadd, 1) := by decide +kernel
theorem dL_law_1443 : decode cL_law 1443 = .ok (.iaload, 1) := by decide +kernel
theorem dL_law_1444 : decode cL_law 1444 = .ok (.aload_n 0, 1) := by decide +kernel
theorem dL_law_1445 : decode cL_law 1445 = .ok (.iload_n 3, 1) := by decide +kernel
theorem dL_law_1446 : decode cL_law 1446 = .ok (.iconst 3, 1) := by decide +kernel
theorem dL_law_1447 : decode cL_law 1447 = .ok (.iadd, 1) := by decide +kernel
theorem dL_law_1448 : decode cL_law 1448 = .ok (.iaload, 1) := by decide +kernel
theorem dL_law_1449 : decode cL_law 1449 = .ok (.invokevirtual 170, 3) := by decide +kernel
theorem dL_law_1452 : decode cL_law 1452 = .ok (.if_icmp .eq 196, 3) := by decide +kernel
set_option maxHeartbeats 4000000 in
set_option maxRecDepth 20000 in
theorem lo_item {p : Program} {l : Launch} {e : Env} {s : State} {m : MethodId} {args : Array Value} {below : List Frame} {meth : Method} {c : Code} {Q : State → Prop} {ad : Nat → Nat} {D : va_G} {cs : Nat → ClassId} {A : Nat → Prop} {hx hm : Nat → Nat} {b L : Nat} {xs : Nat → Int32} (C : Cx p s m args c cL_law 4 RL ad D (tysW cs) A) (X : Scr s A b L xs) (hL : L < 2 ^ 31) {σ τ : Nat → Nat → Int32} (h : Rel σ τ) {i : Nat} (hi : i + 4 < L) (k : ∀ σ2 τ2, Rel σ2 τ2 → VN p l e room_1 s m args below meth c Q D A 4 78 1876 (wX cs hx σ2 ++ wM cs hm τ2) 1648 [(3, .int (nI i)), (2, .ref (hm 0)), (1, .ref (hx 0)), (0, .ref b)] []) : VN p l e room_1 s m args below meth c Q D A 4 78 1876 (wX cs hx σ ++ wM cs hm τ) 1414 [(3, .int (nI i)), (2, .ref (hm 0)), (1, .ref (hx 0)), (0, .ref b)] [] := by
  obtain ⟨n, rr⟩ := h.row
  have ho := o_item h rr ((xs (i + 1))) ((xs (i + 2))) ((xs (i + 3)))
  refine n_aload_n (pc := 1414) C 2 dL_law_1414 rfl rfl ?_
  refine n_aload_n (pc := 1415) C 3 dL_law_1415 rfl rfl ?_
  refine n_iload_n (pc := 1416) C 0 dL_law_1416 rfl rfl ?_
  refine n_iconst (pc := 1417) C (nI 1) dL_law_1417 (by decide) ?_
  refine n_iadd (pc := 1418) C dL_law_1418 ?_
  refine n_sld (pc := 1419) C X (i + 1) (nI_add i 1) (by omega) hL dL_law_1419 ?_
  refine n_aload_n (pc := 1420) C 3 dL_law_1420 rfl rfl ?_
  refine n_iload_n (pc := 1421) C 0 dL_law_1421 rfl rfl ?_
  refine n_iconst (pc := 1422) C (nI 2) dL_law_1422 (by decide) ?_
  refine n_iadd (pc := 1423) C dL_law_1423 ?_
  refine n_sld (pc := 1424) C X (i + 2) (nI_add i 2) (by omega) hL dL_law_1424 ?_
  refine n_aload_n (pc := 1425) C 3 dL_law_1425 rfl rfl ?_
  refine n_iload_n (pc := 1426) C 0 dL_law_1426 rfl rfl ?_
  refine n_iconst (pc := 1427) C (nI 3) dL_law_1427 (by decide) ?_
  refine n_iadd (pc := 1428) C dL_law_1428 ?_
  refine n_sld (pc := 1429) C X (i + 3) (nI_add i 3) (by omega) hL dL_law_1429 ?_
  refine n_Vi (pc := 1430) C (As := [.int (xs (i + 1)), .int (xs (i + 2)), .int (xs (i + 3))]) (rest := []) (b := hx 0) (ci := 5) (q0 := 0) (w' := wX cs hx σ ++ wM cs hm τ) (t_X5_item l ad D cs hx σ [] (wM cs hm τ) n ((xs (i + 1))) ((xs (i + 2))) ((xs (i + 3))) rr.h0 rr.hn rr.rg h.siz h.sor) mv_X5_item ml_RL_167 rfl ⟨(Nat.le_of_ble_eq_true rfl), (Nat.le_of_ble_eq_true rfl)⟩ ⟨rfl, rfl⟩ rfl rfl rfl rfl rfl rfl (Nat.le_of_ble_eq_true rfl) dL_law_1430 (Nat.le_of_ble_eq_true rfl) (Nat.le_of_ble_eq_true rfl) ?_
  refine n_aload_n (pc := 1433) C 1 dL_law_1433 rfl rfl ?_
  refine n_aload_n (pc := 1434) C 3 dL_law_1434 rfl rfl ?_
  refine n_iload_n (pc := 1435) C 0 dL_law_1435 rfl rfl ?_
  refine n_iconst (pc := 1436) C (nI 1) dL_law_1436 (by decide) ?_
  refine n_iadd (pc := 1437) C dL_law_1437 ?_
  refine n_sld (pc := 1438) C X (i + 1) (nI_add i 1) (by omega) hL dL_law_1438 ?_
  refine n_aload_n (pc := 1439) C 3 dL_law_1439 rfl rfl ?_
  refine n_iload_n (pc := 1440) C 0 dL_law_1440 rfl rfl ?_
  refine n_iconst (pc := 1441) C (nI 2) dL_law_1441 (by decide) ?_
  refine n_iadd (pc := 1442) C dL_law_1442 ?_
  refine n_sld (pc := 1443) C X (i + 2) (nI_add i 2) (by omega) hL dL_law_1443 ?_
  refine n_aload_n (pc := 1444) C 3 dL_law_1444 rfl rfl ?_
  refine n_iload_n (pc := 1445) C 0 dL_law_1445 rfl rfl ?_
  refine n_iconst (pc := 1446) C (nI 3) dL_law_1446 (by decide) ?_
  refine n_iadd (pc := 1447) C dL_law_1447 ?_
  refine n_sld (pc := 1448) C X (i + 3) (nI_add i 3) (by omega) hL dL_law_1448 ?_
  refine n_Vi (pc := 1449) C (As := [.int (xs (i + 1)), .int (xs (i + 2)), .int (xs (i + 3))]) (rest := [.int _]) (b := hm 0) (ci := 6) (q0 := 0) (w' := wX cs hx σ ++ wM cs hm τ) (t_X6_item l ad D cs hm τ (wX cs hx σ) [] n ((xs (i + 1))) ((xs (i + 2))) ((xs (i + 3))) rr.h0' rr.hn (by rw [← h.si]; exact h.siz)) mv_X6_item ml_RL_170 rfl ⟨(Nat.le_of_ble_eq_true rfl), (Nat.le_of_ble_eq_true rfl)⟩ ⟨rfl, rfl⟩ rfl rfl rfl (by rw [List.append_nil]) (by rw [List.append_nil]) rfl (Nat.le_of_ble_eq_true rfl) dL_law_1449 (Nat.le_of_ble_eq_true rfl) (Nat.le_of_ble_eq_true rfl) ?_
  refine n_icmp_eq (pc := 1452) C 1648 dL_law_1452 (by decide) (fun _ => k _ _ ho.2) (fun hne => absurd ho.1 hne)
theorem dL_law_1457 : decode cL_law 1457 = .ok (.aload_n 1, 1) := by decide +kernel
theorem dL_law_1458 : decode cL_law 1458 = .ok (.aload_n 0, 1) := by decide +kernel
theorem dL_law_1459 : decode cL_law 1459 = .ok (.iload_n 3, 1) := by decide +kernel
theorem dL_law_1460 : decode cL_law 1460 = .ok (.iconst 1, 1) := by decide +kernel
theorem dL_law_1461 : decode cL_law 1461 = .ok (.iadd, 1) := by decide +kernel
theorem dL_law_1462 : decode cL_law 1462 = .ok (.iaload, 1) := by decide +kernel
theorem dL_law_1463 : decode cL_law 1463 = .ok (.aload_n 0, 1) := by decide +kernel
theorem dL_law_1464 : decode cL_law 1464 = .ok (.iload_n 3, 1) := by decide +kernel
theorem dL_law_1465 : decode cL_law 1465 = .ok (.iconst 2, 1) := by decide +kernel
theorem dL_law_1466 : decode cL_law 1466 = .ok (.iadd, 1) := by decide +kernel
theorem dL_law_1467 : decode cL_law 1467 = .ok (.iaload, 1) := by decide +kernel
theorem dL_law_1468 : decode cL_law 1468 = .ok (.aload_n 0, 1) := by decide +kernel
theorem dL_law_1469 : decode cL_law 1469 = .ok (.iload_n 3, 1) := by decide +kernel
theorem dL_law_1470 : decode cL_law 1470 = .ok (.iconst 3, 1) := by decide +kernel
theorem dL_law_1471 : decode cL_law 1471 = .ok (.iadd, 1) := by decide +kernel
theorem dL_law_1472 : decode cL_law 1472 = .ok (.iaload, 1) := by decide +kernel
theorem dL_law_1473 : decode cL_law 1473 = .ok (.invokevirtual 171, 3) := by decide +kernel
theorem dL_law_1476 : decode cL_law 1476 = .ok (.aload_n 2, 1) := by decide +kernel
theorem dL_law_1477 : decode cL_law 1477 = .ok (.aload_n 0, 1) := by decide +kernel
theorem dL_law_1478 : decode cL_law 1478 = .ok (.iload_n 3, 1) := by decide +kernel
theorem dL_law_1479 : decode cL_law 1479 = .ok (.iconst 1, 1) := by decide +kernel
theorem dL_law_1480 : decode cL_law 1480 = .ok (.iadd, 1) := by decide +kernel
theorem dL_law_1481 : decode cL_law 1481 = .ok (.iaload, 1) := by decide +kernel
theorem dL_law_1482 : decode cL_law 1482 = .ok (.aload_n 0, 1) := by decide +kernel
theorem dL_law_1483 : decode cL_law 1483 = .ok (.iload_n 3, 1) := by decide +kernel
theorem dL_law_1484 : decode cL_law 1484 = .ok (.iconst 2, 1) := by decide +kernel
theorem dL_law_1485 : decode cL_law 1485 = .ok (.iadd, 1) := by decide +kernel
theorem dL_law_1486 : decode cL_law 1486 = .ok (.iaload, 1) := by decide +kernel
theorem dL_law_1487 : decode cL_law 1487 = .ok (.aload_n 0, 1) := by decide +kernel
theorem dL_law_1488 : decode cL_law 1488 = .ok (.iload_n 3, 1) := by decide +kernel
theorem dL_law_1489 : decode cL_law 1489 = .ok (.iconst 3, 1) := by decide +kernel
theorem dL_law_1490 : decode cL_law 1490 = .ok (.iadd, 1) := by decide +kernel
theorem dL_law_1491 : decode cL_law 1491 = .ok (.iaload, 1) := by decide +kernel
theorem dL_law_1492 : decode cL_law 1492 = .ok (.invokevirtual 174, 3) := by decide +kernel
theorem dL_law_1495 : decode cL_law 1495 = .ok (.if_icmp .eq 153, 3) := by decide +kernel
set_option maxHeartbeats 4000000 in
set_option maxRecDepth 20000 in
theorem lo_shelf {p : Program} {l : Launch} {e : Env} {s : State} {m : MethodId} {args : Array Value} {below : List Frame} {meth : Method} {c : Code} {Q : State → Prop} {ad : Nat → Nat} {D : va_G} {cs : Nat → ClassId} {A : Nat → Prop} {hx hm : Nat → Nat} {b L : Nat} {xs : Nat → Int32} (C : Cx p s m args c cL_law 4 RL ad D (tysW cs) A) (X : Scr s A b L xs) (hL : L < 2 ^ 31) {σ τ : Nat → Nat → Int32} (h : Rel σ τ) {i : Nat} (hi : i + 4 < L) (k : ∀ σ2 τ2, Rel σ2 τ2 → VN p l e room_1 s m args below meth c Q D A 4 78 1876 (wX cs hx σ2 ++ wM cs hm τ2) 1648 [(3, .int (nI i)), (2, .ref (hm 0)), (1, .ref (hx 0)), (0, .ref b)] []) : VN p l e room_1 s m args below meth c Q D A 4 78 1876 (wX cs hx σ ++ wM cs hm τ) 1457 [(3, .int (nI i)), (2, .ref (hm 0)), (1, .ref (hx 0)), (0, .ref b)] [] := by
  obtain ⟨n, rr⟩ := h.row
  have ho := o_shelf h rr ((xs (i + 1))) ((xs (i + 2))) ((xs (i + 3)))
  refine n_aload_n (pc := 1457) C 2 dL_law_1457 rfl rfl ?_
  refine n_aload_n (pc := 1458) C 3 dL_law_1458 rfl rfl ?_
  refine n_iload_n (pc := 1459) C 0 dL_law_1459 rfl rfl ?_
  refine n_iconst (pc := 1460) C (nI 1) dL_law_1460 (by decide) ?_
  refine n_iadd (pc := 1461) C dL_law_1461 ?_
  refine n_sld (pc := 1462) C X (i + 1) (nI_add i 1) (by omega) hL dL_law_1462 ?_
  refine n_aload_n (pc := 1463) C 3 dL_law_1463 rfl rfl ?_
  refine n_iload_n (pc := 1464) C 0 dL_law_1464 rfl rfl ?_
  refine n_iconst (pc := 1465) C (nI 2) dL_law_1465 (by decide) ?_
  refine n_iadd (pc := 1466) C dL_law_1466 ?_
  refine n_sld (pc := 1467) C X (i + 2) (nI_add i 2) (by omega) hL dL_law_1467 ?_
  refine n_aload_n (pc := 1468) C 3 dL_law_1468 rfl rfl ?_
  refine n_iload_n (pc := 1469) C 0 dL_law_1469 rfl rfl ?_
  refine n_iconst (pc := 1470) C (nI 3) dL_law_1470 (by decide) ?_
  refine n_iadd (pc := 1471) C dL_law_1471 ?_
  refine n_sld (pc := 1472) C X (i + 3) (nI_add i 3) (by omega) hL dL_law_1472 ?_
  refine n_Vi (pc := 1473) C (As := [.int (xs (i + 1)), .int (xs (i + 2)), .int (xs (i + 3))]) (rest := []) (b := hx 0) (ci := 5) (q0 := 0) (w' := wX cs hx (su (su (su σ 18 (gateF (shlB n ((xs (i + 1))) ((xs (i + 2))) ((xs (i + 3)))) (upd (σ 18) ((xs (i + 1))).toNatClampNeg (if ((xs (i + 2))) = 0 then 1 else if shlR (σ 15) ((xs (i + 2))) ((xs (i + 3))) = true then 2 else 0)) (σ 18))) 19 (gateF (shlB n ((xs (i + 1))) ((xs (i + 2))) ((xs (i + 3)))) (if ((xs (i + 2))) = 0 then upd (σ 19) ((xs (i + 1))).toNatClampNeg ((xs (i + 3))) else if ((xs (i + 2))) = 1 then upd (σ 19) ((xs (i + 1))).toNatClampNeg (σ 16 ((xs (i + 3))).toNatClampNeg) else σ 19) (σ 19))) 20 (gateF (shlB n ((xs (i + 1))) ((xs (i + 2))) ((xs (i + 3)))) (if ((xs (i + 2))) = 1 then upd (σ 20) ((xs (i + 1))).toNatClampNeg (σ 15 ((xs (i + 3))).toNatClampNeg) else σ 20) (σ 20))) ++ wM cs hm τ) (t_X5_shelf l ad D cs hx σ [] (wM cs hm τ) n ((xs (i + 1))) ((xs (i + 2))) ((xs (i + 3))) rr.h0 rr.hn rr.rg h.sor) mv_X5_shelf ml_RL_171 rfl ⟨(Nat.le_of_ble_eq_true rfl), (Nat.le_of_ble_eq_true rfl)⟩ ⟨rfl, rfl⟩ rfl rfl rfl rfl rfl rfl (Nat.le_of_ble_eq_true rfl) dL_law_1473 (Nat.le_of_ble_eq_true rfl) (Nat.le_of_ble_eq_true rfl) ?_
  refine n_aload_n (pc := 1476) C 1 dL_law_1476 rfl rfl ?_
  refine n_aload_n (pc := 1477) C 3 dL_law_1477 rfl rfl ?_
  refine n_iload_n (pc := 1478) C 0 dL_law_1478 rfl rfl ?_
  refine n_iconst (pc := 1479) C (nI 1) dL_law_1479 (by decide) ?_
  refine n_iadd (pc := 1480) C dL_law_1480 ?_
  refine n_sld (pc := 1481) C X (i + 1) (nI_add i 1) (by omega) hL dL_law_1481 ?_
  refine n_aload_n (pc := 1482) C 3 dL_law_1482 rfl rfl ?_
  refine n_iload_n (pc := 1483) C 0 dL_law_1483 rfl rfl ?_
  refine n_iconst (pc := 1484) C (nI 2) dL_law_1484 (by decide) ?_
  refine n_iadd (pc := 1485) C dL_law_1485 ?_
  refine n_sld (pc := 1486) C X (i + 2) (nI_add i 2) (by omega) hL dL_law_1486 ?_
  refine n_aload_n (pc := 1487) C 3 dL_law_1487 rfl rfl ?_
  refine n_iload_n (pc := 1488) C 0 dL_law_1488 rfl rfl ?_
  refine n_iconst (pc := 1489) C (nI 3) dL_law_1489 (by decide) ?_
  refine n_iadd (pc := 1490) C dL_law_1490 ?_
  refine n_sld (pc := 1491) C X (i + 3) (nI_add i 3) (by omega) hL dL_law_1491 ?_
  refine n_Vi (pc := 1492) C (As := [.int (xs (i + 1)), .int (xs (i + 2)), .int (xs (i + 3))]) (rest := [.int _]) (b := hm 0) (ci := 6) (q0 := 0) (w' := wX cs hx (su (su (su σ 18 (gateF (shlB n ((xs (i + 1))) ((xs (i + 2))) ((xs (i + 3)))) (upd (σ 18) ((xs (i + 1))).toNatClampNeg (if ((xs (i + 2))) = 0 then 1 else if shlR (σ 15) ((xs (i + 2))) ((xs (i + 3))) = true then 2 else 0)) (σ 18))) 19 (gateF (shlB n ((xs (i + 1))) ((xs (i + 2))) ((xs (i + 3)))) (if ((xs (i + 2))) = 0 then upd (σ 19) ((xs (i + 1))).toNatClampNeg ((xs (i + 3))) else if ((xs (i + 2))) = 1 then upd (σ 19) ((xs (i + 1))).toNatClampNeg (σ 16 ((xs (i + 3))).toNatClampNeg) else σ 19) (σ 19))) 20 (gateF (shlB n ((xs (i + 1))) ((xs (i + 2))) ((xs (i + 3)))) (if ((xs (i + 2))) = 1 then upd (σ 20) ((xs (i + 1))).toNatClampNeg (σ 15 ((xs (i + 3))).toNatClampNeg) else σ 20) (σ 20))) ++ wM cs hm (su (su (su τ 18 (gateF (shlB n ((xs (i + 1))) ((xs (i + 2))) ((xs (i + 3)))) (upd (τ 18) ((xs (i + 1))).toNatClampNeg (if ((xs (i + 2))) = 0 then 1 else if shlR (τ 15) ((xs (i + 2))) ((xs (i + 3))) = true then 2 else 0)) (τ 18))) 19 (gateF (shlB n ((xs (i + 1))) ((xs (i + 2))) ((xs (i + 3)))) (upd (τ 19) ((xs (i + 1))).toNatClampNeg (if ((xs (i + 2))) = 0 then ((xs (i + 3))) else if shlR (τ 15) ((xs (i + 2))) ((xs (i + 3))) = true then τ 15 ((xs (i + 3))).toNatClampNeg else 0)) (τ 19))) 20 (gateF (shlB n ((xs (i + 1))) ((xs (i + 2))) ((xs (i + 3)))) (upd (τ 20) ((xs (i + 1))).toNatClampNeg (if shlR (τ 15) ((xs (i + 2))) ((xs (i + 3))) = true then τ 16 ((xs (i + 3))).toNatClampNeg else 0)) (τ 20)))) (t_X6_shelf l ad D cs hm τ (wX cs hx (su (su (su σ 18 (gateF (shlB n ((xs (i + 1))) ((xs (i + 2))) ((xs (i + 3)))) (upd (σ 18) ((xs (i + 1))).toNatClampNeg (if ((xs (i + 2))) = 0 then 1 else if shlR (σ 15) ((xs (i + 2))) ((xs (i + 3))) = true then 2 else 0)) (σ 18))) 19 (gateF (shlB n ((xs (i + 1))) ((xs (i + 2))) ((xs (i + 3)))) (if ((xs (i + 2))) = 0 then upd (σ 19) ((xs (i + 1))).toNatClampNeg ((xs (i + 3))) else if ((xs (i + 2))) = 1 then upd (σ 19) ((xs (i + 1))).toNatClampNeg (σ 16 ((xs (i + 3))).toNatClampNeg) else σ 19) (σ 19))) 20 (gateF (shlB n ((xs (i + 1))) ((xs (i + 2))) ((xs (i + 3)))) (if ((xs (i + 2))) = 1 then upd (σ 20) ((xs (i + 1))).toNatClampNeg (σ 15 ((xs (i + 3))).toNatClampNeg) else σ 20) (σ 20)))) [] n ((xs (i + 1))) ((xs (i + 2))) ((xs (i + 3))) rr.h0' rr.hn) mv_X6_shelf ml_RL_174 rfl ⟨(Nat.le_of_ble_eq_true rfl), (Nat.le_of_ble_eq_true rfl)⟩ ⟨rfl, rfl⟩ rfl rfl rfl (by rw [List.append_nil]) (by rw [List.append_nil]) rfl (Nat.le_of_ble_eq_true rfl) dL_law_1492 (Nat.le_of_ble_eq_true rfl) (Nat.le_of_ble_eq_true rfl) ?_
  refine n_icmp_eq (pc := 1495) C 1648 dL_law_1495 (by decide) (fun _ => k _ _ ho.2) (fun hne => absurd ho.1 hne)
theorem dL_law_1500 : decode cL_law 1500 = .ok (.aload_n 1, 1) := by decide +kernel
theorem dL_law_1501 : decode cL_law 1501 = .ok (.aload_n 0, 1) := by decide +kernel
theorem dL_law_1502 : decode cL_law 1502 = .ok (.iload_n 3, 1) := by decide +kernel
theorem dL_law_1503 : decode cL_law 1503 = .ok (.iconst 1, 1) := by decide +kernel
theorem dL_law_1504 : decode cL_law 1504 = .ok (.iadd, 1) := by decide +kernel
theorem dL_law_1505 : decode cL_law 1505 = .ok (.iaload, 1) := by decide +kernel
theorem dL_law_1506 : decode cL_law 1506 = .ok (.aload_n 0, 1) := by decide +kernel
theorem dL_law_1507 : decode cL_law 1507 = .ok (.iload_n 3, 1) := by decide +kernel
theorem dL_law_1508 : decode cL_law 1508 = .ok (.iconst 2, 1) := by decide +kernel
theorem dL_law_1509 : decode cL_law 1509 = .ok (.iadd, 1) := by decide +kernel
theorem dL_law_1510 : decode cL_law 1510 = .ok (.iaload, 1) := by decide +kernel
theorem dL_law_1511 : decode cL_law 1511 = .ok (.invokevirtual 175, 3) := by decide +kernel
theorem dL_law_1514 : decode cL_law 1514 = .ok (.aload_n 2, 1) := by decide +kernel
theorem dL_law_1515 : decode cL_law 1515 = .ok (.aload_n 0, 1) := by decide +kernel
theorem dL_law_1516 : decode cL_law 1516 = .ok (.iload_n 3, 1) := by decide +kernel
theorem dL_law_1517 : decode cL_law 1517 = .ok (.iconst 1, 1) := by decide +kernel
theorem dL_law_1518 : decode cL_law 1518 = .ok (.iadd, 1) := by decide +kernel
theorem dL_law_1519 : decode cL_law 1519 = .ok (.iaload, 1) := by decide +kernel
theorem dL_law_1520 : decode cL_law 1520 = .ok (.aload_n 0, 1) := by decide +kernel
theorem dL_law_1521 : decode cL_law 1521 = .ok (.iload_n 3, 1) := by decide +kernel
theorem dL_law_1522 : decode cL_law 1522 = .ok (.iconst 2, 1) := by decide +kernel
theorem dL_law_1523 : decode cL_law 1523 = .ok (.iadd, 1) := by decide +kernel
theorem dL_law_1524 : decode cL_law 1524 = .ok (.iaload, 1) := by decide +kernel
theorem dL_law_1525 : decode cL_law 1525 = .ok (.invokevirtual 178, 3) := by decide +kernel
theorem dL_law_1528 : decode cL_law 1528 = .ok (.if_icmp .eq 120, 3) := by decide +kernel
set_option maxHeartbeats 4000000 in
set_option maxRecDepth 20000 in
theorem lo_taken {p : Program} {l : Launch} {e : Env} {s : State} {m : MethodId} {args : Array Value} {below : List Frame} {meth : Method} {c : Code} {Q : State → Prop} {ad : Nat → Nat} {D : va_G} {cs : Nat → ClassId} {A : Nat → Prop} {hx hm : Nat → Nat} {b L : Nat} {xs : Nat → Int32} (C : Cx p s m args c cL_law 4 RL ad D (tysW cs) A) (X : Scr s A b L xs) (hL : L < 2 ^ 31) {σ τ : Nat → Nat → Int32} (h : Rel σ τ) {i : Nat} (hi : i + 4 < L) (k : ∀ σ2 τ2, Rel σ2 τ2 → VN p l e room_1 s m args below meth c Q D A 4 78 1876 (wX cs hx σ2 ++ wM cs hm τ2) 1648 [(3, .int (nI i)), (2, .ref (hm 0)), (1, .ref (hx 0)), (0, .ref b)] []) : VN p l e room_1 s m args below meth c Q D A 4 78 1876 (wX cs hx σ ++ wM cs hm τ) 1500 [(3, .int (nI i)), (2, .ref (hm 0)), (1, .ref (hx 0)), (0, .ref b)] [] := by
  obtain ⟨n, rr⟩ := h.row
  have ho := o_taken h rr ((xs (i + 1))) ((xs (i + 2)))
  refine n_aload_n (pc := 1500) C 2 dL_law_1500 rfl rfl ?_
  refine n_aload_n (pc := 1501) C 3 dL_law_1501 rfl rfl ?_
  refine n_iload_n (pc := 1502) C 0 dL_law_1502 rfl rfl ?_
  refine n_iconst (pc := 1503) C (nI 1) dL_law_1503 (by decide) ?_
  refine n_iadd (pc := 1504) C dL_law_1504 ?_
  refine n_sld (pc := 1505) C X (i + 1) (nI_add i 1) (by omega) hL dL_law_1505 ?_
  refine n_aload_n (pc := 1506) C 3 dL_law_1506 rfl rfl ?_
  refine n_iload_n (pc := 1507) C 0 dL_law_1507 rfl rfl ?_
  refine n_iconst (pc := 1508) C (nI 2) dL_law_1508 (by decide) ?_
  refine n_iadd (pc := 1509) C dL_law_1509 ?_
  refine n_sld (pc := 1510) C X (i + 2) (nI_add i 2) (by omega) hL dL_law_1510 ?_
  refine n_Vi (pc := 1511) C (As := [.int (xs (i + 1)), .int (xs (i + 2))]) (rest := []) (b := hx 0) (ci := 5) (q0 := 0) (w' := wX cs hx σ ++ wM cs hm τ) (t_X5_taken l ad D cs hx σ [] (wM cs hm τ) n ((xs (i + 1))) ((xs (i + 2))) rr.h0 rr.hn rr.rg) mv_X5_taken ml_RL_175 rfl ⟨(Nat.le_of_ble_eq_true rfl), (Nat.le_of_ble_eq_true rfl)⟩ ⟨rfl, rfl⟩ rfl rfl rfl rfl rfl rfl (Nat.le_of_ble_eq_true rfl) dL_law_1511 (Nat.le_of_ble_eq_true rfl) (Nat.le_of_ble_eq_true rfl) ?_
  refine n_aload_n (pc := 1514) C 1 dL_law_1514 rfl rfl ?_
  refine n_aload_n (pc := 1515) C 3 dL_law_1515 rfl rfl ?_
  refine n_iload_n (pc := 1516) C 0 dL_law_1516 rfl rfl ?_
  refine n_iconst (pc := 1517) C (nI 1) dL_law_1517 (by decide) ?_
  refine n_iadd (pc := 1518) C dL_law_1518 ?_
  refine n_sld (pc := 1519) C X (i + 1) (nI_add i 1) (by omega) hL dL_law_1519 ?_
  refine n_aload_n (pc := 1520) C 3 dL_law_1520 rfl rfl ?_
  refine n_iload_n (pc := 1521) C 0 dL_law_1521 rfl rfl ?_
  refine n_iconst (pc := 1522) C (nI 2) dL_law_1522 (by decide) ?_
  refine n_iadd (pc := 1523) C dL_law_1523 ?_
  refine n_sld (pc := 1524) C X (i + 2) (nI_add i 2) (by omega) hL dL_law_1524 ?_
  refine n_Vi (pc := 1525) C (As := [.int (xs (i + 1)), .int (xs (i + 2))]) (rest := [.int _]) (b := hm 0) (ci := 6) (q0 := 0) (w' := wX cs hx σ ++ wM cs hm τ) (t_X6_taken l ad D cs hm τ (wX cs hx σ) [] n ((xs (i + 1))) ((xs (i + 2))) rr.h0' rr.hn) mv_X6_taken ml_RL_178 rfl ⟨(Nat.le_of_ble_eq_true rfl), (Nat.le_of_ble_eq_true rfl)⟩ ⟨rfl, rfl⟩ rfl rfl rfl (by rw [List.append_nil]) (by rw [List.append_nil]) rfl (Nat.le_of_ble_eq_true rfl) dL_law_1525 (Nat.le_of_ble_eq_true rfl) (Nat.le_of_ble_eq_true rfl) ?_
  refine n_icmp_eq (pc := 1528) C 1648 dL_law_1528 (by decide) (fun _ => k _ _ ho.2) (fun hne => absurd ho.1 hne)
theorem dL_law_1533 : decode cL_law 1533 = .ok (.aload_n 1, 1) := by decide +kernel
theorem dL_law_1534 : decode cL_law 1534 = .ok (.aload_n 0, 1) := by decide +kernel
theorem dL_law_1535 : decode cL_law 1535 = .ok (.iload_n 3, 1) := by decide +kernel
theorem dL_law_1536 : decode cL_law 1536 = .ok (.iconst 1, 1) := by decide +kernel
theorem dL_law_1537 : decode cL_law 1537 = .ok (.iadd, 1) := by decide +kernel
theorem dL_law_1538 : decode cL_law 1538 = .ok (.iaload, 1) := by decide +kernel
theorem dL_law_1539 : decode cL_law 1539 = .ok (.aload_n 0, 1) := by decide +kernel
theorem dL_law_1540 : decode cL_law 1540 = .ok (.iload_n 3, 1) := by decide +kernel
theorem dL_law_1541 : decode cL_law 1541 = .ok (.iconst 2, 1) := by decide +kernel
theorem dL_law_1542 : decode cL_law 1542 = .ok (.iadd, 1) := by decide +kernel
theorem dL_law_1543 : decode cL_law 1543 = .ok (.iaload, 1) := by decide +kernel
theorem dL_law_1544 : decode cL_law 1544 = .ok (.aload_n 0, 1) := by decide +kernel
theorem dL_law_1545 : decode cL_law 1545 = .ok (.iload_n 3, 1) := by decide +kernel
theorem dL_law_1546 : decode cL_law 1546 = .ok (.iconst 3, 1) := by decide +kernel
theorem dL_law_1547 : decode cL_law 1547 = .ok (.iadd, 1) := by decide +kernel
theorem dL_law_1548 : decode cL_law 1548 = .ok (.iaload, 1) := by decide +kernel
theorem dL_law_1549 : decode cL_law 1549 = .ok (.invokevirtual 179, 3) := by decide +kernel
theorem dL_law_1552 : decode cL_law 1552 = .ok (.aload_n 2, 1) := by decide +kernel
theorem dL_law_1553 : decode cL_law 1553 = .ok (.aload_n 0, 1) := by decide +kernel
theorem dL_law_1554 : decode cL_law 1554 = .ok (.iload_n 3, 1) := by decide +kernel
theorem dL_law_1555 : decode cL_law 1555 = .ok (.iconst 1, 1) := by decide +kernel
theorem dL_law_1556 : decode cL_law 1556 = .ok (.iadd, 1) := by decide +kernel
theorem dL_law_1557 : decode cL_law 1557 = .ok (.iaload, 1) := by decide +kernel
theorem dL_law_1558 : decode cL_law 1558 = .ok (.aload_n 0, 1) := by decide +kernel
theorem dL_law_1559 : decode cL_law 1559 = .ok (.iload_n 3, 1) := by decide +kernel
theorem dL_law_1560 : decode cL_law 1560 = .ok (.iconst 2, 1) := by decide +kernel
theorem dL_law_1561 : decode cL_law 1561 = .ok (.iadd, 1) := by decide +kernel
theorem dL_law_1562 : decode cL_law 1562 = .ok (.iaload, 1) := by decide +kernel
theorem dL_law_1563 : decode cL_law 1563 = .ok (.aload_n 0, 1) := by decide +kernel
theorem dL_law_1564 : decode cL_law 1564 = .ok (.iload_n 3, 1) := by decide +kernel
theorem dL_law_1565 : decode cL_law 1565 = .ok (.iconst 3, 1) := by decide +kernel
theorem dL_law_1566 : decode cL_law 1566 = .ok (.iadd, 1) := by decide +kernel
theorem dL_law_1567 : decode cL_law 1567 = .ok (.iaload, 1) := by decide +kernel
theorem dL_law_1568 : decode cL_law 1568 = .ok (.invokevirtual 182, 3) := by decide +kernel
theorem dL_law_1571 : decode cL_law 1571 = .ok (.if_icmp .eq 77, 3) := by decide +kernel
set_option maxHeartbeats 4000000 in
set_option maxRecDepth 20000 in
theorem lo_act {p : Program} {l : Launch} {e : Env} {s : State} {m : MethodId} {args : Array Value} {below : List Frame} {meth : Method} {c : Code} {Q : State → Prop} {ad : Nat → Nat} {D : va_G} {cs : Nat → ClassId} {A : Nat → Prop} {hx hm : Nat → Nat} {b L : Nat} {xs : Nat → Int32} (C : Cx p s m args c cL_law 4 RL ad D (tysW cs) A) (X : Scr s A b L xs) (hL : L < 2 ^ 31) {σ τ : Nat → Nat → Int32} (h : Rel σ τ) {i : Nat} (hi : i + 4 < L) (k : ∀ σ2 τ2, Rel σ2 τ2 → VN p l e room_1 s m args below meth c Q D A 4 78 1876 (wX cs hx σ2 ++ wM cs hm τ2) 1648 [(3, .int (nI i)), (2, .ref (hm 0)), (1, .ref (hx 0)), (0, .ref b)] []) : VN p l e room_1 s m args below meth c Q D A 4 78 1876 (wX cs hx σ ++ wM cs hm τ) 1533 [(3, .int (nI i)), (2, .ref (hm 0)), (1, .ref (hx 0)), (0, .ref b)] [] := by
  obtain ⟨n, rr⟩ := h.row
  have ho := o_act h rr ((xs (i + 1))) ((xs (i + 2))) ((xs (i + 3)))
  refine n_aload_n (pc := 1533) C 2 dL_law_1533 rfl rfl ?_
  refine n_aload_n (pc := 1534) C 3 dL_law_1534 rfl rfl ?_
  refine n_iload_n (pc := 1535) C 0 dL_law_1535 rfl rfl ?_
  refine n_iconst (pc := 1536) C (nI 1) dL_law_1536 (by decide) ?_
  refine n_iadd (pc := 1537) C dL_law_1537 ?_
  refine n_sld (pc := 1538) C X (i + 1) (nI_add i 1) (by omega) hL dL_law_1538 ?_
  refine n_aload_n (pc := 1539) C 3 dL_law_1539 rfl rfl ?_
  refine n_iload_n (pc := 1540) C 0 dL_law_1540 rfl rfl ?_
  refine n_iconst (pc := 1541) C (nI 2) dL_law_1541 (by decide) ?_
  refine n_iadd (pc := 1542) C dL_law_1542 ?_
  refine n_sld (pc := 1543) C X (i + 2) (nI_add i 2) (by omega) hL dL_law_1543 ?_
  refine n_aload_n (pc := 1544) C 3 dL_law_1544 rfl rfl ?_
  refine n_iload_n (pc := 1545) C 0 dL_law_1545 rfl rfl ?_
  refine n_iconst (pc := 1546) C (nI 3) dL_law_1546 (by decide) ?_
  refine n_iadd (pc := 1547) C dL_law_1547 ?_
  refine n_sld (pc := 1548) C X (i + 3) (nI_add i 3) (by omega) hL dL_law_1548 ?_
  refine n_Vi (pc := 1549) C (As := [.int (xs (i + 1)), .int (xs (i + 2)), .int (xs (i + 3))]) (rest := []) (b := hx 0) (ci := 5) (q0 := 0) (w' := wX cs hx (su (su (su (su (su (su σ 21 (gateF (inB ((xs (i + 1))) 0 3 && decide (σ 18 ((xs (i + 1))).toNatClampNeg = 1 ∧ oneB n (σ 19 ((xs (i + 1))).toNatClampNeg) = true)) (if inB ((xs (i + 2))) 0 3 = true then trB (σ 21) 0 (acC ((xs (i + 2))) (σ 0 (8 + 5 * (σ 19 ((xs (i + 1))).toNatClampNeg).toNatClampNeg)) (σ 19 ((xs (i + 1))).toNatClampNeg) (σ 0 (8 + 5 * (σ 19 ((xs (i + 1))).toNatClampNeg).toNatClampNeg + 1))) else σ 21) (σ 21))) 22 (gateF (inB ((xs (i + 1))) 0 3 && decide (σ 18 ((xs (i + 1))).toNatClampNeg = 1 ∧ oneB n (σ 19 ((xs (i + 1))).toNatClampNeg) = true)) (if inB ((xs (i + 2))) 0 3 = true then fun _ => nI (trR 0 (acC ((xs (i + 2))) (σ 0 (8 + 5 * (σ 19 ((xs (i + 1))).toNatClampNeg).toNatClampNeg)) (σ 19 ((xs (i + 1))).toNatClampNeg) (σ 0 (8 + 5 * (σ 19 ((xs (i + 1))).toNatClampNeg).toNatClampNeg + 1)))) else fun _ => 0) (fun _ => 0))) 23 (gateF (inB ((xs (i + 1))) 0 3 && decide (σ 18 ((xs (i + 1))).toNatClampNeg = 1 ∧ oneB n (σ 19 ((xs (i + 1))).toNatClampNeg) = true)) (fun _ => σ 0 (8 + 5 * (σ 19 ((xs (i + 1))).toNatClampNeg).toNatClampNeg)) (σ 23))) 24 (gateF (inB ((xs (i + 1))) 0 3 && decide (σ 18 ((xs (i + 1))).toNatClampNeg = 1 ∧ oneB n (σ 19 ((xs (i + 1))).toNatClampNeg) = true)) (fun _ => σ 19 ((xs (i + 1))).toNatClampNeg) (σ 24))) 25 (gateF (inB ((xs (i + 1))) 0 3 && decide (σ 18 ((xs (i + 1))).toNatClampNeg = 1 ∧ oneB n (σ 19 ((xs (i + 1))).toNatClampNeg) = true)) (fun _ => σ 0 (8 + 5 * (σ 19 ((xs (i + 1))).toNatClampNeg).toNatClampNeg + 1)) (σ 25))) 26 (gateF (inB ((xs (i + 1))) 0 3 && decide (σ 18 ((xs (i + 1))).toNatClampNeg = 1 ∧ oneB n (σ 19 ((xs (i + 1))).toNatClampNeg) = true)) (if inB ((xs (i + 2))) 0 3 = true then fun _ => acD ((xs (i + 2))) (σ 0 (8 + 5 * (σ 19 ((xs (i + 1))).toNatClampNeg).toNatClampNeg)) (σ 19 ((xs (i + 1))).toNatClampNeg) (σ 0 (8 + 5 * (σ 19 ((xs (i + 1))).toNatClampNeg).toNatClampNeg + 1)) else fun _ => 0) (fun _ => 0))) ++ wM cs hm τ) (t_X5_act l ad D cs hx σ [] (wM cs hm τ) n ((xs (i + 1))) ((xs (i + 2))) ((xs (i + 3))) rr.h0 rr.hn rr.rg) mv_X5_act ml_RL_179 rfl ⟨(Nat.le_of_ble_eq_true rfl), (Nat.le_of_ble_eq_true rfl)⟩ ⟨rfl, rfl⟩ rfl rfl rfl rfl rfl rfl (Nat.le_of_ble_eq_true rfl) dL_law_1549 (Nat.le_of_ble_eq_true rfl) (Nat.le_of_ble_eq_true rfl) ?_
  refine n_aload_n (pc := 1552) C 1 dL_law_1552 rfl rfl ?_
  refine n_aload_n (pc := 1553) C 3 dL_law_1553 rfl rfl ?_
  refine n_iload_n (pc := 1554) C 0 dL_law_1554 rfl rfl ?_
  refine n_iconst (pc := 1555) C (nI 1) dL_law_1555 (by decide) ?_
  refine n_iadd (pc := 1556) C dL_law_1556 ?_
  refine n_sld (pc := 1557) C X (i + 1) (nI_add i 1) (by omega) hL dL_law_1557 ?_
  refine n_aload_n (pc := 1558) C 3 dL_law_1558 rfl rfl ?_
  refine n_iload_n (pc := 1559) C 0 dL_law_1559 rfl rfl ?_
  refine n_iconst (pc := 1560) C (nI 2) dL_law_1560 (by decide) ?_
  refine n_iadd (pc := 1561) C dL_law_1561 ?_
  refine n_sld (pc := 1562) C X (i + 2) (nI_add i 2) (by omega) hL dL_law_1562 ?_
  refine n_aload_n (pc := 1563) C 3 dL_law_1563 rfl rfl ?_
  refine n_iload_n (pc := 1564) C 0 dL_law_1564 rfl rfl ?_
  refine n_iconst (pc := 1565) C (nI 3) dL_law_1565 (by decide) ?_
  refine n_iadd (pc := 1566) C dL_law_1566 ?_
  refine n_sld (pc := 1567) C X (i + 3) (nI_add i 3) (by omega) hL dL_law_1567 ?_
  refine n_Vi (pc := 1568) C (As := [.int (xs (i + 1)), .int (xs (i + 2)), .int (xs (i + 3))]) (rest := [.int _]) (b := hm 0) (ci := 6) (q0 := 0) (w' := wX cs hx (su (su (su (su (su (su σ 21 (gateF (inB ((xs (i + 1))) 0 3 && decide (σ 18 ((xs (i + 1))).toNatClampNeg = 1 ∧ oneB n (σ 19 ((xs (i + 1))).toNatClampNeg) = true)) (if inB ((xs (i + 2))) 0 3 = true then trB (σ 21) 0 (acC ((xs (i + 2))) (σ 0 (8 + 5 * (σ 19 ((xs (i + 1))).toNatClampNeg).toNatClampNeg)) (σ 19 ((xs (i + 1))).toNatClampNeg) (σ 0 (8 + 5 * (σ 19 ((xs (i + 1))).toNatClampNeg).toNatClampNeg + 1))) else σ 21) (σ 21))) 22 (gateF (inB ((xs (i + 1))) 0 3 && decide (σ 18 ((xs (i + 1))).toNatClampNeg = 1 ∧ oneB n (σ 19 ((xs (i + 1))).toNatClampNeg) = true)) (if inB ((xs (i + 2))) 0 3 = true then fun _ => nI (trR 0 (acC ((xs (i + 2))) (σ 0 (8 + 5 * (σ 19 ((xs (i + 1))).toNatClampNeg).toNatClampNeg)) (σ 19 ((xs (i + 1))).toNatClampNeg) (σ 0 (8 + 5 * (σ 19 ((xs (i + 1))).toNatClampNeg).toNatClampNeg + 1)))) else fun _ => 0) (fun _ => 0))) 23 (gateF (inB ((xs (i + 1))) 0 3 && decide (σ 18 ((xs (i + 1))).toNatClampNeg = 1 ∧ oneB n (σ 19 ((xs (i + 1))).toNatClampNeg) = true)) (fun _ => σ 0 (8 + 5 * (σ 19 ((xs (i + 1))).toNatClampNeg).toNatClampNeg)) (σ 23))) 24 (gateF (inB ((xs (i + 1))) 0 3 && decide (σ 18 ((xs (i + 1))).toNatClampNeg = 1 ∧ oneB n (σ 19 ((xs (i + 1))).toNatClampNeg) = true)) (fun _ => σ 19 ((xs (i + 1))).toNatClampNeg) (σ 24))) 25 (gateF (inB ((xs (i + 1))) 0 3 && decide (σ 18 ((xs (i + 1))).toNatClampNeg = 1 ∧ oneB n (σ 19 ((xs (i + 1))).toNatClampNeg) = true)) (fun _ => σ 0 (8 + 5 * (σ 19 ((xs (i + 1))).toNatClampNeg).toNatClampNeg + 1)) (σ 25))) 26 (gateF (inB ((xs (i + 1))) 0 3 && decide (σ 18 ((xs (i + 1))).toNatClampNeg = 1 ∧ oneB n (σ 19 ((xs (i + 1))).toNatClampNeg) = true)) (if inB ((xs (i + 2))) 0 3 = true then fun _ => acD ((xs (i + 2))) (σ 0 (8 + 5 * (σ 19 ((xs (i + 1))).toNatClampNeg).toNatClampNeg)) (σ 19 ((xs (i + 1))).toNatClampNeg) (σ 0 (8 + 5 * (σ 19 ((xs (i + 1))).toNatClampNeg).toNatClampNeg + 1)) else fun _ => 0) (fun _ => 0))) ++ wM cs hm (su (su (su (su (su (su τ 21 (gateF (inB ((xs (i + 1))) 0 3 && (inB ((xs (i + 2))) 0 3 && decide (hoF n (τ 18) (τ 19) ((xs (i + 1))).toNatClampNeg = 1))) (trB (τ 21) 0 (acC ((xs (i + 2))) (τ 0 (8 + 5 * (τ 19 ((xs (i + 1))).toNatClampNeg).toNatClampNeg)) (τ 19 ((xs (i + 1))).toNatClampNeg) (τ 0 (8 + 5 * (τ 19 ((xs (i + 1))).toNatClampNeg).toNatClampNeg + 1)))) (τ 21))) 22 (gateF (inB ((xs (i + 1))) 0 3 && (inB ((xs (i + 2))) 0 3 && decide (hoF n (τ 18) (τ 19) ((xs (i + 1))).toNatClampNeg = 1))) (fun _ => nI (trR 0 (acC ((xs (i + 2))) (τ 0 (8 + 5 * (τ 19 ((xs (i + 1))).toNatClampNeg).toNatClampNeg)) (τ 19 ((xs (i + 1))).toNatClampNeg) (τ 0 (8 + 5 * (τ 19 ((xs (i + 1))).toNatClampNeg).toNatClampNeg + 1))))) (fun _ => 0))) 23 (gateF (inB ((xs (i + 1))) 0 3 && (inB ((xs (i + 2))) 0 3 && decide (hoF n (τ 18) (τ 19) ((xs (i + 1))).toNatClampNeg = 1))) (fun _ => τ 0 (8 + 5 * (τ 19 ((xs (i + 1))).toNatClampNeg).toNatClampNeg)) (τ 23))) 24 (gateF (inB ((xs (i + 1))) 0 3 && (inB ((xs (i + 2))) 0 3 && decide (hoF n (τ 18) (τ 19) ((xs (i + 1))).toNatClampNeg = 1))) (fun _ => τ 19 ((xs (i + 1))).toNatClampNeg) (τ 24))) 25 (gateF (inB ((xs (i + 1))) 0 3 && (inB ((xs (i + 2))) 0 3 && decide (hoF n (τ 18) (τ 19) ((xs (i + 1))).toNatClampNeg = 1))) (fun _ => τ 0 (8 + 5 * (τ 19 ((xs (i + 1))).toNatClampNeg).toNatClampNeg + 1)) (τ 25))) 26 (gateF (inB ((xs (i + 1))) 0 3 && (inB ((xs (i + 2))) 0 3 && decide (hoF n (τ 18) (τ 19) ((xs (i + 1))).toNatClampNeg = 1))) (fun _ => acD ((xs (i + 2))) (τ 0 (8 + 5 * (τ 19 ((xs (i + 1))).toNatClampNeg).toNatClampNeg)) (τ 19 ((xs (i + 1))).toNatClampNeg) (τ 0 (8 + 5 * (τ 19 ((xs (i + 1))).toNatClampNeg).toNatClampNeg + 1))) (τ 26)))) (t_X6_act l ad D cs hm τ (wX cs hx (su (su (su (su (su (su σ 21 (gateF (inB ((xs (i + 1))) 0 3 && decide (σ 18 ((xs (i + 1))).toNatClampNeg = 1 ∧ oneB n (σ 19 ((xs (i + 1))).toNatClampNeg) = true)) (if inB ((xs (i + 2))) 0 3 = true then trB (σ 21) 0 (acC ((xs (i + 2))) (σ 0 (8 + 5 * (σ 19 ((xs (i + 1))).toNatClampNeg).toNatClampNeg)) (σ 19 ((xs (i + 1))).toNatClampNeg) (σ 0 (8 + 5 * (σ 19 ((xs (i + 1))).toNatClampNeg).toNatClampNeg + 1))) else σ 21) (σ 21))) 22 (gateF (inB ((xs (i + 1))) 0 3 && decide (σ 18 ((xs (i + 1))).toNatClampNeg = 1 ∧ oneB n (σ 19 ((xs (i + 1))).toNatClampNeg) = true)) (if inB ((xs (i + 2))) 0 3 = true then fun _ => nI (trR 0 (acC ((xs (i + 2))) (σ 0 (8 + 5 * (σ 19 ((xs (i + 1))).toNatClampNeg).toNatClampNeg)) (σ 19 ((xs (i + 1))).toNatClampNeg) (σ 0 (8 + 5 * (σ 19 ((xs (i + 1))).toNatClampNeg).toNatClampNeg + 1)))) else fun _ => 0) (fun _ => 0))) 23 (gateF (inB ((xs (i + 1))) 0 3 && decide (σ 18 ((xs (i + 1))).toNatClampNeg = 1 ∧ oneB n (σ 19 ((xs (i + 1))).toNatClampNeg) = true)) (fun _ => σ 0 (8 + 5 * (σ 19 ((xs (i + 1))).toNatClampNeg).toNatClampNeg)) (σ 23))) 24 (gateF (inB ((xs (i + 1))) 0 3 && decide (σ 18 ((xs (i + 1))).toNatClampNeg = 1 ∧ oneB n (σ 19 ((xs (i + 1))).toNatClampNeg) = true)) (fun _ => σ 19 ((xs (i + 1))).toNatClampNeg) (σ 24))) 25 (gateF (inB ((xs (i + 1))) 0 3 && decide (σ 18 ((xs (i + 1))).toNatClampNeg = 1 ∧ oneB n (σ 19 ((xs (i + 1))).toNatClampNeg) = true)) (fun _ => σ 0 (8 + 5 * (σ 19 ((xs (i + 1))).toNatClampNeg).toNatClampNeg + 1)) (σ 25))) 26 (gateF (inB ((xs (i + 1))) 0 3 && decide (σ 18 ((xs (i + 1))).toNatClampNeg = 1 ∧ oneB n (σ 19 ((xs (i + 1))).toNatClampNeg) = true)) (if inB ((xs (i + 2))) 0 3 = true then fun _ => acD ((xs (i + 2))) (σ 0 (8 + 5 * (σ 19 ((xs (i + 1))).toNatClampNeg).toNatClampNeg)) (σ 19 ((xs (i + 1))).toNatClampNeg) (σ 0 (8 + 5 * (σ 19 ((xs (i + 1))).toNatClampNeg).toNatClampNeg + 1)) else fun _ => 0) (fun _ => 0)))) [] n ((xs (i + 1))) ((xs (i + 2))) ((xs (i + 3))) rr.h0' rr.hn) mv_X6_act ml_RL_182 rfl ⟨(Nat.le_of_ble_eq_true rfl), (Nat.le_of_ble_eq_true rfl)⟩ ⟨rfl, rfl⟩ rfl rfl rfl (by rw [List.append_nil]) (by rw [List.append_nil]) rfl (Nat.le_of_ble_eq_true rfl) dL_law_1568 (Nat.le_of_ble_eq_true rfl) (Nat.le_of_ble_eq_true rfl) ?_
  refine n_icmp_eq (pc := 1571) C 1648 dL_law_1571 (by decide) (fun _ => k _ _ ho.2) (fun hne => absurd ho.1 hne)
