theorem dL_law_224 : decode cL_law 224 = .ok (.aload_n 1, 1) := by decide +kernel
theorem dL_law_225 : decode cL_law 225 = .ok (.aload_n 0, 1) := by decide +kernel
theorem dL_law_226 : decode cL_law 226 = .ok (.iload_n 3, 1) := by decide +kernel
theorem dL_law_227 : decode cL_law 227 = .ok (.iconst 1, 1) := by decide +kernel
theorem dL_law_228 : decode cL_law 228 = .ok (.iadd, 1) := by decide +kernel
theorem dL_law_229 : decode cL_law 229 = .ok (.iaload, 1) := by decide +kernel
theorem dL_law_230 : decode cL_law 230 = .ok (.i2l, 1) := by decide +kernel
theorem dL_law_231 : decode cL_law 231 = .ok (.bipush 32, 2) := by decide +kernel
theorem dL_law_233 : decode cL_law 233 = .ok (.lshl, 1) := by decide +kernel
theorem dL_law_234 : decode cL_law 234 = .ok (.aload_n 0, 1) := by decide +kernel
theorem dL_law_235 : decode cL_law 235 = .ok (.iload_n 3, 1) := by decide +kernel
theorem dL_law_236 : decode cL_law 236 = .ok (.iconst 2, 1) := by decide +kernel
theorem dL_law_237 : decode cL_law 237 = .ok (.iadd, 1) := by decide +kernel
theorem dL_law_238 : decode cL_law 238 = .ok (.iaload, 1) := by decide +kernel
theorem dL_law_239 : decode cL_law 239 = .ok (.i2l, 1) := by decide +kernel
theorem dL_law_240 : decode cL_law 240 = .ok (.ldc2_w 13, 3) := by decide +kernel
theorem dL_law_243 : decode cL_law 243 = .ok (.land, 1) := by decide +kernel
theorem dL_law_244 : decode cL_law 244 = .ok (.lor, 1) := by decide +kernel
theorem dL_law_245 : decode cL_law 245 = .ok (.aload_n 0, 1) := by decide +kernel
theorem dL_law_246 : decode cL_law 246 = .ok (.iload_n 3, 1) := by decide +kernel
theorem dL_law_247 : decode cL_law 247 = .ok (.iconst 3, 1) := by decide +kernel
theorem dL_law_248 : decode cL_law 248 = .ok (.iadd, 1) := by decide +kernel
theorem dL_law_249 : decode cL_law 249 = .ok (.iaload, 1) := by decide +kernel
theorem dL_law_250 : decode cL_law 250 = .ok (.invokevirtual 15, 3) := by decide +kernel
theorem dL_law_253 : decode cL_law 253 = .ok (.aload_n 2, 1) := by decide +kernel
theorem dL_law_254 : decode cL_law 254 = .ok (.aload_n 0, 1) := by decide +kernel
theorem dL_law_255 : decode cL_law 255 = .ok (.iload_n 3, 1) := by decide +kernel
theorem dL_law_256 : decode cL_law 256 = .ok (.iconst 1, 1) := by decide +kernel
theorem dL_law_257 : decode cL_law 257 = .ok (.iadd, 1) := by decide +kernel
theorem dL_law_258 : decode cL_law 258 = .ok (.iaload, 1) := by decide +kernel
theorem dL_law_259 : decode cL_law 259 = .ok (.i2l, 1) := by decide +kernel
theorem dL_law_260 : decode cL_law 260 = .ok (.bipush 32, 2) := by decide +kernel
theorem dL_law_262 : decode cL_law 262 = .ok (.lshl, 1) := by decide +kernel
theorem dL_law_263 : decode cL_law 263 = .ok (.aload_n 0, 1) := by decide +kernel
theorem dL_law_264 : decode cL_law 264 = .ok (.iload_n 3, 1) := by decide +kernel
theorem dL_law_265 : decode cL_law 265 = .ok (.iconst 2, 1) := by decide +kernel
theorem dL_law_266 : decode cL_law 266 = .ok (.iadd, 1) := by decide +kernel
theorem dL_law_267 : decode cL_law 267 = .ok (.iaload, 1) := by decide +kernel
theorem dL_law_268 : decode cL_law 268 = .ok (.i2l, 1) := by decide +kernel
theorem dL_law_269 : decode cL_law 269 = .ok (.ldc2_w 13, 3) := by decide +kernel
theorem dL_law_272 : decode cL_law 272 = .ok (.land, 1) := by decide +kernel
theorem dL_law_273 : decode cL_law 273 = .ok (.lor, 1) := by decide +kernel
theorem dL_law_274 : decode cL_law 274 = .ok (.aload_n 0, 1) := by decide +kernel
theorem dL_law_275 : decode cL_law 275 = .ok (.iload_n 3, 1) := by decide +kernel
theorem dL_law_276 : decode cL_law 276 = .ok (.iconst 3, 1) := by decide +kernel
theorem dL_law_277 : decode cL_law 277 = .ok (.iadd, 1) := by decide +kernel
theorem dL_law_278 : decode cL_law 278 = .ok (.iaload, 1) := by decide +kernel
theorem dL_law_279 : decode cL_law 279 = .ok (.invokevirtual 19, 3) := by decide +kernel
theorem dL_law_282 : decode cL_law 282 = .ok (.if_icmp .eq 1366, 3) := by decide +kernel
set_option maxHeartbeats 4000000 in
set_option maxRecDepth 20000 in
theorem lo_feed {p : Program} {l : Launch} {e : Env} {s : State} {m : MethodId} {args : Array Value} {below : List Frame} {meth : Method} {c : Code} {Q : State → Prop} {ad : Nat → Nat} {D : va_G} {cs : Nat → ClassId} {A : Nat → Prop} {hx hm : Nat → Nat} {b L : Nat} {xs : Nat → Int32} (C : Cx p s m args c cL_law 4 RL ad D (tysW cs) A) (X : Scr s A b L xs) (hL : L < 2 ^ 31) {σ τ : Nat → Nat → Int32} (h : Rel σ τ) {i : Nat} (hi : i + 4 < L) (k : ∀ σ2 τ2, Rel σ2 τ2 → VN p l e room_1 s m args below meth c Q D A 4 78 1876 (wX cs hx σ2 ++ wM cs hm τ2) 1648 [(3, .int (nI i)), (2, .ref (hm 0)), (1, .ref (hx 0)), (0, .ref b)] []) : VN p l e room_1 s m args below meth c Q D A 4 78 1876 (wX cs hx σ ++ wM cs hm τ) 224 [(3, .int (nI i)), (2, .ref (hm 0)), (1, .ref (hx 0)), (0, .ref b)] [] := by
  obtain ⟨n, rr⟩ := h.row
  obtain ⟨t, ht, hT5, hT6⟩ := h.tap
  have ho := o_feed h rr ht hT5 hT6 (((((xs (i + 1))).toInt64 <<< ((32 : Int32).toInt64 &&& 63)) ||| (((xs (i + 2))).toInt64 &&& (4294967295)))) ((xs (i + 3)))
  refine n_aload_n (pc := 224) C 2 dL_law_224 rfl rfl ?_
  refine n_aload_n (pc := 225) C 3 dL_law_225 rfl rfl ?_
  refine n_iload_n (pc := 226) C 0 dL_law_226 rfl rfl ?_
  refine n_iconst (pc := 227) C (nI 1) dL_law_227 (by decide) ?_
  refine n_iadd (pc := 228) C dL_law_228 ?_
  refine n_sld (pc := 229) C X (i + 1) (nI_add i 1) (by omega) hL dL_law_229 ?_
  refine n_i2l (pc := 230) C dL_law_230 ?_
  refine n_bipush (pc := 231) C 32 dL_law_231 (by decide) ?_
  refine n_lshl (pc := 233) C dL_law_233 ?_
  refine n_aload_n (pc := 234) C 3 dL_law_234 rfl rfl ?_
  refine n_iload_n (pc := 235) C 0 dL_law_235 rfl rfl ?_
  refine n_iconst (pc := 236) C (nI 2) dL_law_236 (by decide) ?_
  refine n_iadd (pc := 237) C dL_law_237 ?_
  refine n_sld (pc := 238) C X (i + 2) (nI_add i 2) (by omega) hL dL_law_238 ?_
  refine n_i2l (pc := 239) C dL_law_239 ?_
  refine n_ldc2 (pc := 240) C dL_law_240 cn_RL_13 ?_
  refine n_land (pc := 243) C dL_law_243 ?_
  refine n_lor (pc := 244) C dL_law_244 ?_
  refine n_aload_n (pc := 245) C 3 dL_law_245 rfl rfl ?_
  refine n_iload_n (pc := 246) C 0 dL_law_246 rfl rfl ?_
  refine n_iconst (pc := 247) C (nI 3) dL_law_247 (by decide) ?_
  refine n_iadd (pc := 248) C dL_law_248 ?_
  refine n_sld (pc := 249) C X (i + 3) (nI_add i 3) (by omega) hL dL_law_249 ?_
  refine n_Vi (pc := 250) C (As := [.long ((((xs (i + 1))).toInt64 <<< ((32 : Int32).toInt64 &&& 63)) ||| (((xs (i + 2))).toInt64 &&& (4294967295))), .int (xs (i + 3))]) (rest := []) (b := hx 0) (ci := 5) (q0 := 0) (w' := wX cs hx (su (su σ 5 (gateF (inB ((xs (i + 3))) 1 8 && decide (t + ((xs (i + 3))).toNatClampNeg ≤ 200)) (fdN (σ 5) (((((xs (i + 1))).toInt64 <<< ((32 : Int32).toInt64 &&& 63)) ||| (((xs (i + 2))).toInt64 &&& (4294967295)))) t ((xs (i + 3))).toNatClampNeg) (σ 5))) 6 (gateF (inB ((xs (i + 3))) 1 8 && decide (t + ((xs (i + 3))).toNatClampNeg ≤ 200)) (fun _ => nI (t + ((xs (i + 3))).toNatClampNeg)) (σ 6))) ++ wM cs hm τ) (t_X5_feed l ad D cs hx σ [] (wM cs hm τ) t (((((xs (i + 1))).toInt64 <<< ((32 : Int32).toInt64 &&& 63)) ||| (((xs (i + 2))).toInt64 &&& (4294967295)))) ((xs (i + 3))) hT5 ht) mv_X5_feed ml_RL_15 rfl ⟨(Nat.le_of_ble_eq_true rfl), (Nat.le_of_ble_eq_true rfl)⟩ ⟨rfl, rfl⟩ rfl rfl rfl rfl rfl rfl (Nat.le_of_ble_eq_true rfl) dL_law_250 (Nat.le_of_ble_eq_true rfl) (Nat.le_of_ble_eq_true rfl) ?_
  refine n_aload_n (pc := 253) C 1 dL_law_253 rfl rfl ?_
  refine n_aload_n (pc := 254) C 3 dL_law_254 rfl rfl ?_
  refine n_iload_n (pc := 255) C 0 dL_law_255 rfl rfl ?_
  refine n_iconst (pc := 256) C (nI 1) dL_law_256 (by decide) ?_
  refine n_iadd (pc := 257) C dL_law_257 ?_
  refine n_sld (pc := 258) C X (i + 1) (nI_add i 1) (by omega) hL dL_law_258 ?_
  refine n_i2l (pc := 259) C dL_law_259 ?_
  refine n_bipush (pc := 260) C 32 dL_law_260 (by decide) ?_
  refine n_lshl (pc := 262) C dL_law_262 ?_
  refine n_aload_n (pc := 263) C 3 dL_law_263 rfl rfl ?_
  refine n_iload_n (pc := 264) C 0 dL_law_264 rfl rfl ?_
  refine n_iconst (pc := 265) C (nI 2) dL_law_265 (by decide) ?_
  refine n_iadd (pc := 266) C dL_law_266 ?_
  refine n_sld (pc := 267) C X (i + 2) (nI_add i 2) (by omega) hL dL_law_267 ?_
  refine n_i2l (pc := 268) C dL_law_268 ?_
  refine n_ldc2 (pc := 269) C dL_law_269 cn_RL_13 ?_
  refine n_land (pc := 272) C dL_law_272 ?_
  refine n_lor (pc := 273) C dL_law_273 ?_
  refine n_aload_n (pc := 274) C 3 dL_law_274 rfl rfl ?_
  refine n_iload_n (pc := 275) C 0 dL_law_275 rfl rfl ?_
  refine n_iconst (pc := 276) C (nI 3) dL_law_276 (by decide) ?_
  refine n_iadd (pc := 277) C dL_law_277 ?_
  refine n_sld (pc := 278) C X (i + 3) (nI_add i 3) (by omega) hL dL_law_278 ?_
  refine n_Vi (pc := 279) C (As := [.long ((((xs (i + 1))).toInt64 <<< ((32 : Int32).toInt64 &&& 63)) ||| (((xs (i + 2))).toInt64 &&& (4294967295))), .int (xs (i + 3))]) (rest := [.int _]) (b := hm 0) (ci := 6) (q0 := 0) (w' := wX cs hx (su (su σ 5 (gateF (inB ((xs (i + 3))) 1 8 && decide (t + ((xs (i + 3))).toNatClampNeg ≤ 200)) (fdN (σ 5) (((((xs (i + 1))).toInt64 <<< ((32 : Int32).toInt64 &&& 63)) ||| (((xs (i + 2))).toInt64 &&& (4294967295)))) t ((xs (i + 3))).toNatClampNeg) (σ 5))) 6 (gateF (inB ((xs (i + 3))) 1 8 && decide (t + ((xs (i + 3))).toNatClampNeg ≤ 200)) (fun _ => nI (t + ((xs (i + 3))).toNatClampNeg)) (σ 6))) ++ wM cs hm (su (su τ 5 (gateF (inB ((xs (i + 3))) 1 8 && decide (t + ((xs (i + 3))).toNatClampNeg ≤ 200)) (fdN (τ 5) (((((xs (i + 1))).toInt64 <<< ((32 : Int32).toInt64 &&& 63)) ||| (((xs (i + 2))).toInt64 &&& (4294967295)))) t ((xs (i + 3))).toNatClampNeg) (τ 5))) 6 (gateF (inB ((xs (i + 3))) 1 8 && decide (t + ((xs (i + 3))).toNatClampNeg ≤ 200)) (fun _ => nI (t + ((xs (i + 3))).toNatClampNeg)) (τ 6)))) (t_X6_feed l ad D cs hm τ (wX cs hx (su (su σ 5 (gateF (inB ((xs (i + 3))) 1 8 && decide (t + ((xs (i + 3))).toNatClampNeg ≤ 200)) (fdN (σ 5) (((((xs (i + 1))).toInt64 <<< ((32 : Int32).toInt64 &&& 63)) ||| (((xs (i + 2))).toInt64 &&& (4294967295)))) t ((xs (i + 3))).toNatClampNeg) (σ 5))) 6 (gateF (inB ((xs (i + 3))) 1 8 && decide (t + ((xs (i + 3))).toNatClampNeg ≤ 200)) (fun _ => nI (t + ((xs (i + 3))).toNatClampNeg)) (σ 6)))) [] t (((((xs (i + 1))).toInt64 <<< ((32 : Int32).toInt64 &&& 63)) ||| (((xs (i + 2))).toInt64 &&& (4294967295)))) ((xs (i + 3))) hT6 ht) mv_X6_feed ml_RL_19 rfl ⟨(Nat.le_of_ble_eq_true rfl), (Nat.le_of_ble_eq_true rfl)⟩ ⟨rfl, rfl⟩ rfl rfl rfl (by rw [List.append_nil]) (by rw [List.append_nil]) rfl (Nat.le_of_ble_eq_true rfl) dL_law_279 (Nat.le_of_ble_eq_true rfl) (Nat.le_of_ble_eq_true rfl) ?_
  refine n_icmp_eq (pc := 282) C 1648 dL_law_282 (by decide) (fun _ => k _ _ ho.2) (fun hne => absurd ho.1 hne)
theorem dL_law_287 : decode cL_law 287 = .ok (.aload_n 1, 1) := by decide +kernel
theorem dL_law_288 : decode cL_law 288 = .ok (.invokevirtual 20, 3) := by decide +kernel
theorem dL_law_291 : decode cL_law 291 = .ok (.aload_n 2, 1) := by decide +kernel
theorem dL_law_292 : decode cL_law 292 = .ok (.invokevirtual 24, 3) := by decide +kernel
theorem dL_law_295 : decode cL_law 295 = .ok (.if_icmp .eq 1353, 3) := by decide +kernel
set_option maxHeartbeats 4000000 in
set_option maxRecDepth 20000 in
theorem lo_market {p : Program} {l : Launch} {e : Env} {s : State} {m : MethodId} {args : Array Value} {below : List Frame} {meth : Method} {c : Code} {Q : State → Prop} {ad : Nat → Nat} {D : va_G} {cs : Nat → ClassId} {A : Nat → Prop} {hx hm : Nat → Nat} {b L : Nat} {xs : Nat → Int32} (C : Cx p s m args c cL_law 4 RL ad D (tysW cs) A) (X : Scr s A b L xs) (hL : L < 2 ^ 31) {σ τ : Nat → Nat → Int32} (h : Rel σ τ) {i : Nat} (hi : i + 4 < L) (k : ∀ σ2 τ2, Rel σ2 τ2 → VN p l e room_1 s m args below meth c Q D A 4 78 1876 (wX cs hx σ2 ++ wM cs hm τ2) 1648 [(3, .int (nI i)), (2, .ref (hm 0)), (1, .ref (hx 0)), (0, .ref b)] []) : VN p l e room_1 s m args below meth c Q D A 4 78 1876 (wX cs hx σ ++ wM cs hm τ) 287 [(3, .int (nI i)), (2, .ref (hm 0)), (1, .ref (hx 0)), (0, .ref b)] [] := by
  obtain ⟨n, rr⟩ := h.row
  obtain ⟨t, ht, hT5, hT6⟩ := h.tap
  have ho := o_market h rr ht hT5 hT6
  refine n_aload_n (pc := 287) C 2 dL_law_287 rfl rfl ?_
  refine n_Vi (pc := 288) C (As := []) (rest := []) (b := hx 0) (ci := 5) (q0 := 0) (w' := wX cs hx (su (su (su (su (su (su (su σ 0 (if (mCS (σ 5) t (bfF (σ 3))).1 = true then σ 0 else upd (mCS (σ 5) t (bfF (σ 3))).2.2 2 (σ 0 2))) 3 ((mCS (σ 5) t (bfF (σ 3))).2.2)) 6 (fun _ => 0)) 7 (fun _ => nI (tkK (σ 5) t (mCS (σ 5) t (bfF (σ 3))).2.1))) 8 (fun _ => nI (tkF (σ 5) t (mCS (σ 5) t (bfF (σ 3))).2.1))) 9 (fun _ => nI (tkT (σ 5) t (mCS (σ 5) t (bfF (σ 3))).2.1))) 14 (if (mCS (σ 5) t (bfF (σ 3))).1 = true then σ 14 else fun _ => 0)) ++ wM cs hm τ) (t_X5_market l ad D cs hx σ [] (wM cs hm τ) t hT5 ht (fun j _ => h.byt j)) mv_X5_market ml_RL_20 rfl ⟨(Nat.le_of_ble_eq_true rfl), (Nat.le_of_ble_eq_true rfl)⟩ ⟨rfl, rfl⟩ rfl rfl rfl rfl rfl rfl (Nat.le_of_ble_eq_true rfl) dL_law_288 (Nat.le_of_ble_eq_true rfl) (Nat.le_of_ble_eq_true rfl) ?_
  refine n_aload_n (pc := 291) C 1 dL_law_291 rfl rfl ?_
  refine n_Vi (pc := 292) C (As := []) (rest := [.int _]) (b := hm 0) (ci := 6) (q0 := 0) (w' := wX cs hx (su (su (su (su (su (su (su σ 0 (if (mCS (σ 5) t (bfF (σ 3))).1 = true then σ 0 else upd (mCS (σ 5) t (bfF (σ 3))).2.2 2 (σ 0 2))) 3 ((mCS (σ 5) t (bfF (σ 3))).2.2)) 6 (fun _ => 0)) 7 (fun _ => nI (tkK (σ 5) t (mCS (σ 5) t (bfF (σ 3))).2.1))) 8 (fun _ => nI (tkF (σ 5) t (mCS (σ 5) t (bfF (σ 3))).2.1))) 9 (fun _ => nI (tkT (σ 5) t (mCS (σ 5) t (bfF (σ 3))).2.1))) 14 (if (mCS (σ 5) t (bfF (σ 3))).1 = true then σ 14 else fun _ => 0)) ++ wM cs hm (su (su (su (su (su (su (su (su (su τ 0 (if (mkS (τ 5) t (τ 0 2)).1 = true then τ 0 else (mkS (τ 5) t (τ 0 2)).2.2)) 3 (τ 0)) 6 (fun _ => 0)) 7 (fun _ => nI (tkK (τ 5) t (mkS (τ 5) t (τ 0 2)).2.1))) 8 (fun _ => nI (tkF (τ 5) t (mkS (τ 5) t (τ 0 2)).2.1))) 9 (fun _ => nI (tkT (τ 5) t (mkS (τ 5) t (τ 0 2)).2.1))) 10 (fun _ => tkV (τ 5) t (mkS (τ 5) t (τ 0 2)).2.1)) 11 (fun _ => bI ((mkS (τ 5) t (τ 0 2)).1 = true))) 14 (if (mkS (τ 5) t (τ 0 2)).1 = true then τ 14 else fun _ => 0))) (t_X6_market l ad D cs hm τ (wX cs hx (su (su (su (su (su (su (su σ 0 (if (mCS (σ 5) t (bfF (σ 3))).1 = true then σ 0 else upd (mCS (σ 5) t (bfF (σ 3))).2.2 2 (σ 0 2))) 3 ((mCS (σ 5) t (bfF (σ 3))).2.2)) 6 (fun _ => 0)) 7 (fun _ => nI (tkK (σ 5) t (mCS (σ 5) t (bfF (σ 3))).2.1))) 8 (fun _ => nI (tkF (σ 5) t (mCS (σ 5) t (bfF (σ 3))).2.1))) 9 (fun _ => nI (tkT (σ 5) t (mCS (σ 5) t (bfF (σ 3))).2.1))) 14 (if (mCS (σ 5) t (bfF (σ 3))).1 = true then σ 14 else fun _ => 0))) [] t hT6 ht) mv_X6_market ml_RL_24 rfl ⟨(Nat.le_of_ble_eq_true rfl), (Nat.le_of_ble_eq_true rfl)⟩ ⟨rfl, rfl⟩ rfl rfl rfl (by rw [List.append_nil]) (by rw [List.append_nil]) rfl (Nat.le_of_ble_eq_true rfl) dL_law_292 (Nat.le_of_ble_eq_true rfl) (Nat.le_of_ble_eq_true rfl) ?_
  refine n_icmp_eq (pc := 295) C 1648 dL_law_295 (by decide) (fun _ => k _ _ ho.2) (fun hne => absurd ho.1 hne)
theorem dL_law_300 : decode cL_law 300 = .ok (.aload_n 1, 1) := by decide +kernel
theorem dL_law_301 : decode cL_law 301 = .ok (.aload_n 0, 1) := by decide +kernel
theorem dL_law_302 : decode cL_law 302 = .ok (.iload_n 3, 1) := by decide +kernel
theorem dL_law_303 : decode cL_law 303 = .ok (.iconst 1, 1) := by decide +kernel
theorem dL_law_304 : decode cL_law 304 = .ok (.iadd, 1) := by decide +kernel
theorem dL_law_305 : decode cL_law 305 = .ok (.iaload, 1) := by decide +kernel
theorem dL_law_306 : decode cL_law 306 = .ok (.aload_n 0, 1) := by decide +kernel
theorem dL_law_307 : decode cL_law 307 = .ok (.iload_n 3, 1) := by decide +kernel
theorem dL_law_308 : decode cL_law 308 = .ok (.iconst 2, 1) := by decide +kernel
theorem dL_law_309 : decode cL_law 309 = .ok (.iadd, 1) := by decide +kernel
theorem dL_law_310 : decode cL_law 310 = .ok (.iaload, 1) := by decide +kernel
theorem dL_law_311 : decode cL_law 311 = .ok (.invokevirtual 25, 3) := by decide +kernel
theorem dL_law_314 : decode cL_law 314 = .ok (.aload_n 2, 1) := by decide +kernel
theorem dL_law_315 : decode cL_law 315 = .ok (.aload_n 0, 1) := by decide +kernel
theorem dL_law_316 : decode cL_law 316 = .ok (.iload_n 3, 1) := by decide +kernel
theorem dL_law_317 : decode cL_law 317 = .ok (.iconst 1, 1) := by decide +kernel
theorem dL_law_318 : decode cL_law 318 = .ok (.iadd, 1) := by decide +kernel
theorem dL_law_319 : decode cL_law 319 = .ok (.iaload, 1) := by decide +kernel
theorem dL_law_320 : decode cL_law 320 = .ok (.aload_n 0, 1) := by decide +kernel
theorem dL_law_321 : decode cL_law 321 = .ok (.iload_n 3, 1) := by decide +kernel
theorem dL_law_322 : decode cL_law 322 = .ok (.iconst 2, 1) := by decide +kernel
theorem dL_law_323 : decode cL_law 323 = .ok (.iadd, 1) := by decide +kernel
theorem dL_law_324 : decode cL_law 324 = .ok (.iaload, 1) := by decide +kernel
theorem dL_law_325 : decode cL_law 325 = .ok (.invokevirtual 29, 3) := by decide +kernel
theorem dL_law_328 : decode cL_law 328 = .ok (.if_icmp .eq 1320, 3) := by decide +kernel
set_option maxHeartbeats 4000000 in
set_option maxRecDepth 20000 in
theorem lo_set {p : Program} {l : Launch} {e : Env} {s : State} {m : MethodId} {args : Array Value} {below : List Frame} {meth : Method} {c : Code} {Q : State → Prop} {ad : Nat → Nat} {D : va_G} {cs : Nat → ClassId} {A : Nat → Prop} {hx hm : Nat → Nat} {b L : Nat} {xs : Nat → Int32} (C : Cx p s m args c cL_law 4 RL ad D (tysW cs) A) (X : Scr s A b L xs) (hL : L < 2 ^ 31) {σ τ : Nat → Nat → Int32} (h : Rel σ τ) {i : Nat} (hi : i + 4 < L) (k : ∀ σ2 τ2, Rel σ2 τ2 → VN p l e room_1 s m args below meth c Q D A 4 78 1876 (wX cs hx σ2 ++ wM cs hm τ2) 1648 [(3, .int (nI i)), (2, .ref (hm 0)), (1, .ref (hx 0)), (0, .ref b)] []) : VN p l e room_1 s m args below meth c Q D A 4 78 1876 (wX cs hx σ ++ wM cs hm τ) 300 [(3, .int (nI i)), (2, .ref (hm 0)), (1, .ref (hx 0)), (0, .ref b)] [] := by
  obtain ⟨n, rr⟩ := h.row
  have ho := o_set h rr ((xs (i + 1))) ((xs (i + 2)))
  refine n_aload_n (pc := 300) C 2 dL_law_300 rfl rfl ?_
  refine n_aload_n (pc := 301) C 3 dL_law_301 rfl rfl ?_
  refine n_iload_n (pc := 302) C 0 dL_law_302 rfl rfl ?_
  refine n_iconst (pc := 303) C (nI 1) dL_law_303 (by decide) ?_
  refine n_iadd (pc := 304) C dL_law_304 ?_
  refine n_sld (pc := 305) C X (i + 1) (nI_add i 1) (by omega) hL dL_law_305 ?_
  refine n_aload_n (pc := 306) C 3 dL_law_306 rfl rfl ?_
  refine n_iload_n (pc := 307) C 0 dL_law_307 rfl rfl ?_
  refine n_iconst (pc := 308) C (nI 2) dL_law_308 (by decide) ?_
  refine n_iadd (pc := 309) C dL_law_309 ?_
  refine n_sld (pc := 310) C X (i + 2) (nI_add i 2) (by omega) hL dL_law_310 ?_
  refine n_Vi (pc := 311) C (As := [.int (xs (i + 1)), .int (xs (i + 2))]) (rest := []) (b := hx 0) (ci := 5) (q0 := 0) (w' := wX cs hx (su σ 0 (gateF (inB ((xs (i + 1))) 0 3 && inB ((xs (i + 2))) 0 (if ((xs (i + 1))) = 3 then 99 else 9)) (upd (σ 0) (4 + ((xs (i + 1))).toNatClampNeg) ((xs (i + 2)))) (σ 0))) ++ wM cs hm τ) (t_X5_set l ad D cs hx σ [] (wM cs hm τ) n ((xs (i + 1))) ((xs (i + 2))) rr.h0 rr.hn rr.rg) mv_X5_set ml_RL_25 rfl ⟨(Nat.le_of_ble_eq_true rfl), (Nat.le_of_ble_eq_true rfl)⟩ ⟨rfl, rfl⟩ rfl rfl rfl rfl rfl rfl (Nat.le_of_ble_eq_true rfl) dL_law_311 (Nat.le_of_ble_eq_true rfl) (Nat.le_of_ble_eq_true rfl) ?_
  refine n_aload_n (pc := 314) C 1 dL_law_314 rfl rfl ?_
  refine n_aload_n (pc := 315) C 3 dL_law_315 rfl rfl ?_
  refine n_iload_n (pc := 316) C 0 dL_law_316 rfl rfl ?_
  refine n_iconst (pc := 317) C (nI 1) dL_law_317 (by decide) ?_
  refine n_iadd (pc := 318) C dL_law_318 ?_
  refine n_sld (pc := 319) C X (i + 1) (nI_add i 1) (by omega) hL dL_law_319 ?_
  refine n_aload_n (pc := 320) C 3 dL_law_320 rfl rfl ?_
  refine n_iload_n (pc := 321) C 0 dL_law_321 rfl rfl ?_
  refine n_iconst (pc := 322) C (nI 2) dL_law_322 (by decide) ?_
  refine n_iadd (pc := 323) C dL_law_323 ?_
  refine n_sld (pc := 324) C X (i + 2) (nI_add i 2) (by omega) hL dL_law_324 ?_
  refine n_Vi (pc := 325) C (As := [.int (xs (i + 1)), .int (xs (i + 2))]) (rest := [.int _]) (b := hm 0) (ci := 6) (q0 := 0) (w' := wX cs hx (su σ 0 (gateF (inB ((xs (i + 1))) 0 3 && inB ((xs (i + 2))) 0 (if ((xs (i + 1))) = 3 then 99 else 9)) (upd (σ 0) (4 + ((xs (i + 1))).toNatClampNeg) ((xs (i + 2)))) (σ 0))) ++ wM cs hm (su τ 0 (gateF (inB ((xs (i + 1))) 0 3 && inB ((xs (i + 2))) 0 (if ((xs (i + 1))) = 3 then 99 else 9)) (upd (τ 0) (4 + ((xs (i + 1))).toNatClampNeg) ((xs (i + 2)))) (τ 0)))) (t_X6_set l ad D cs hm τ (wX cs hx (su σ 0 (gateF (inB ((xs (i + 1))) 0 3 && inB ((xs (i + 2))) 0 (if ((xs (i + 1))) = 3 then 99 else 9)) (upd (σ 0) (4 + ((xs (i + 1))).toNatClampNeg) ((xs (i + 2)))) (σ 0)))) [] n ((xs (i + 1))) ((xs (i + 2))) rr.h0' rr.hn) mv_X6_set ml_RL_29 rfl ⟨(Nat.le_of_ble_eq_true rfl), (Nat.le_of_ble_eq_true rfl)⟩ ⟨rfl, rfl⟩ rfl rfl rfl (by rw [List.append_nil]) (by rw [List.append_nil]) rfl (Nat.le_of_ble_eq_true rfl) dL_law_325 (Nat.le_of_ble_eq_true rfl) (Nat.le_of_ble_eq_true rfl) ?_
  refine n_icmp_eq (pc := 328) C 1648 dL_law_328 (by decide) (fun _ => k _ _ ho.2) (fun hne => absurd ho.1 hne)
theorem dL_law_333 : decode cL_law 333 = .ok (.aload_n 1, 1) := by decide +kernel
theorem dL_law_334 : decode cL_law 334 = .ok (.aload_n 0, 1) := by decide +kernel
theorem dL_law_335 : decode cL_law 335 = .ok (.iload_n 3, 1) := by decide +kernel
theorem dL_law_336 : decode cL_law 336 = .ok (.iconst 1, 1) := by decide +kernel
theorem dL_law_337 : decode cL_law 337 = .ok (.iadd, 1) := by decide +kernel
theorem dL_law_338 : decode cL_law 338 = .ok (.iaload, 1) := by decide +kernel
theorem dL_law_339 : decode cL_law 339 = .ok (.invokevirtual 30, 3) := by decide +kernel
theorem dL_law_342 : decode cL_law 342 = .ok (.aload_n 2, 1) := by decide +kernel
theorem dL_law_343 : decode cL_law 343 = .ok (.aload_n 0, 1) := by decide +kernel
theorem dL_law_344 : decode cL_law 344 = .ok (.iload_n 3, 1) := by decide +kernel
theorem dL_law_345 : decode cL_law 345 = .ok (.iconst 1, 1) := by decide +kernel
theorem dL_law_346 : decode cL_law 346 = .ok (.iadd, 1) := by decide +kernel
theorem dL_law_347 : decode cL_law 347 = .ok (.iaload, 1) := by decide +kernel
theorem dL_law_348 : decode cL_law 348 = .ok (.invokevirtual 34, 3) := by decide +kernel
theorem dL_law_351 : decode cL_law 351 = .ok (.if_icmp .eq 1297, 3) := by decide +kernel
set_option maxHeartbeats 4000000 in
set_option maxRecDepth 20000 in
theorem lo_lawOf {p : Program} {l : Launch} {e : Env} {s : State} {m : MethodId} {args : Array Value} {below : List Frame} {meth : Method} {c : Code} {Q : State → Prop} {ad : Nat → Nat} {D : va_G} {cs : Nat → ClassId} {A : Nat → Prop} {hx hm : Nat → Nat} {b L : Nat} {xs : Nat → Int32} (C : Cx p s m args c cL_law 4 RL ad D (tysW cs) A) (X : Scr s A b L xs) (hL : L < 2 ^ 31) {σ τ : Nat → Nat → Int32} (h : Rel σ τ) {i : Nat} (hi : i + 4 < L) (k : ∀ σ2 τ2, Rel σ2 τ2 → VN p l e room_1 s m args below meth c Q D A 4 78 1876 (wX cs hx σ2 ++ wM cs hm τ2) 1648 [(3, .int (nI i)), (2, .ref (hm 0)), (1, .ref (hx 0)), (0, .ref b)] []) : VN p l e room_1 s m args below meth c Q D A 4 78 1876 (wX cs hx σ ++ wM cs hm τ) 333 [(3, .int (nI i)), (2, .ref (hm 0)), (1, .ref (hx 0)), (0, .ref b)] [] := by
  obtain ⟨n, rr⟩ := h.row
  have ho := o_lawOf h rr ((xs (i + 1)))
  refine n_aload_n (pc := 333) C 2 dL_law_333 rfl rfl ?_
  refine n_aload_n (pc := 334) C 3 dL_law_334 rfl rfl ?_
  refine n_iload_n (pc := 335) C 0 dL_law_335 rfl rfl ?_
  refine n_iconst (pc := 336) C (nI 1) dL_law_336 (by decide) ?_
  refine n_iadd (pc := 337) C dL_law_337 ?_
  refine n_sld (pc := 338) C X (i + 1) (nI_add i 1) (by omega) hL dL_law_338 ?_
  refine n_Vi (pc := 339) C (As := [.int (xs (i + 1))]) (rest := []) (b := hx 0) (ci := 5) (q0 := 0) (w' := wX cs hx σ ++ wM cs hm τ) (t_X5_lawOf l ad D cs hx σ [] (wM cs hm τ) n ((xs (i + 1))) rr.h0 rr.hn rr.rg) mv_X5_lawOf ml_RL_30 rfl ⟨(Nat.le_of_ble_eq_true rfl), (Nat.le_of_ble_eq_true rfl)⟩ ⟨rfl, rfl⟩ rfl rfl rfl rfl rfl rfl (Nat.le_of_ble_eq_true rfl) dL_law_339 (Nat.le_of_ble_eq_true rfl) (Nat.le_of_ble_eq_true rfl) ?_
  refine n_aload_n (pc := 342) C 1 dL_law_342 rfl rfl ?_
  refine n_aload_n (pc := 343) C 3 dL_law_343 rfl rfl ?_
  refine n_iload_n (pc := 344) C 0 dL_law_344 rfl rfl ?_
  refine n_iconst (pc := 345) C (nI 1) dL_law_345 (by decide) ?_
  refine n_iadd (pc := 346) C dL_law_346 ?_
  refine n_sld (pc := 347) C X (i + 1) (nI_add i 1) (by omega) hL dL_law_347 ?_
  refine n_Vi (pc := 348) C (As := [.int (xs (i + 1))]) (rest := [.int _]) (b := hm 0) (ci := 6) (q0 := 0) (w' := wX cs hx σ ++ wM cs hm τ) (t_X6_lawOf l ad D cs hm τ (wX cs hx σ) [] n ((xs (i + 1))) rr.h0' rr.hn) mv_X6_lawOf ml_RL_34 rfl ⟨(Nat.le_of_ble_eq_true rfl), (Nat.le_of_ble_eq_true rfl)⟩ ⟨rfl, rfl⟩ rfl rfl rfl (by rw [List.append_nil]) (by rw [List.append_nil]) rfl (Nat.le_of_ble_eq_true rfl) dL_law_348 (Nat.le_of_ble_eq_true rfl) (Nat.le_of_ble_eq_true rfl) ?_
  refine n_icmp_eq (pc := 351) C 1648 dL_law_351 (by decide) (fun _ => k _ _ ho.2) (fun hne => absurd ho.1 hne)
theorem dL_law_356 : decode cL_law 356 = .ok (.aload_n 1, 1) := by decide +kernel
theorem dL_law_357 : decode cL_law 357 = .ok (.aload_n 0, 1) := by decide +kernel
theorem dL_law_358 : decode cL_law 358 = .ok (.iload_n 3, 1) := by decide +kernel
theorem dL_law_359 : decode cL_law 359 = .ok (.iconst 1, 1) := by decide +kernel
theorem dL_law_360 : decode cL_law 360 = .ok (.iadd, 1) := by decide +kernel
theorem dL_law_361 : decode cL_law 361 = .ok (.iaload, 1) := by decide +kernel
theorem dL_law_362 : decode cL_law 362 = .ok (.aload_n 0, 1) := by decide +kernel
theorem dL_law_363 : decode cL_law 363 = .ok (.iload_n 3, 1) := by decide +kernel
theorem dL_law_364 : decode cL_law 364 = .ok (.iconst 2, 1) := by decide +kernel
theorem dL_law_365 : decode cL_law 365 = .ok (.iadd, 1) := by decide +kernel
theorem dL_law_366 : decode cL_law 366 = .ok (.iaload, 1) := by decide +kernel
theorem dL_law_367 : decode cL_law 367 = .ok (.aload_n 0, 1) := by decide +kernel
theorem dL_law_368 : decode cL_law 368 = .ok (.iload_n 3, 1) := by decide +kernel
theorem dL_law_369 : decode cL_law 369 = .ok (.iconst 3, 1) := by decide +kernel
theorem dL_law_370 : decode cL_law 370 = .ok (.iadd, 1) := by decide +kernel
theorem dL_law_371 : decode cL_law 371 = .ok (.iaload, 1) := by decide +kernel
theorem dL_law_372 : decode cL_law 372 = .ok (.aload_n 0, 1) := by decide +kernel
theorem dL_law_373 : decode cL_law 373 = .ok (.iload_n 3, 1) := by decide +kernel
theorem dL_law_374 : decode cL_law 374 = .ok (.iconst 4, 1) := by decide +kernel
theorem dL_law_375 : decode cL_law 375 = .ok (.iadd, 1) := by decide +kernel
theorem dL_law_376 : decode cL_law 376 = .ok (.iaload, 1) := by decide +kernel
theorem dL_law_377 : decode cL_law 377 = .ok (.invokevirtual 35, 3) := by decide +kernel
theorem dL_law_380 : decode cL_law 380 = .ok (.aload_n 2, 1) := by decide +kernel
theorem dL_law_381 : decode cL_law 381 = .ok (.aload_n 0, 1) := by decide +kernel
theorem dL_law_382 : decode cL_law 382 = .ok (.iload_n 3, 1) := by decide +kernel
theorem dL_law_383 : decode cL_law 383 = .ok (.iconst 1, 1) := by decide +kernel
theorem dL_law_384 : decode cL_law 384 = .ok (.iadd, 1) := by decide +kernel
theorem dL_law_385 : decode cL_law 385 = .ok (.iaload, 1) := by decide +kernel
theorem dL_law_386 : decode cL_law 386 = .ok (.aload_n 0, 1) := by decide +kernel
theorem dL_law_387 : decode cL_law 387 = .ok (.iload_n 3, 1) := by decide +kernel
theorem dL_law_388 : decode cL_law 388 = .ok (.iconst 2, 1) := by decide +kernel
theorem dL_law_389 : decode cL_law 389 = .ok (.iadd, 1) := by decide +kernel
theorem dL_law_390 : decode cL_law 390 = .ok (.iaload, 1) := by decide +kernel
theorem dL_law_391 : decode cL_law 391 = .ok (.aload_n 0, 1) := by decide +kernel
theorem dL_law_392 : decode cL_law 392 = .ok (.iload_n 3, 1) := by decide +kernel
theorem dL_law_393 : decode cL_law 393 = .ok (.iconst 3, 1) := by decide +kernel
theorem dL_law_394 : decode cL_law 394 = .ok (.iadd, 1) := by decide +kernel
theorem dL_law_395 : decode cL_law 395 = .ok (.iaload, 1) := by decide +kernel
theorem dL_law_396 : decode cL_law 396 = .ok (.aload_n 0, 1) := by decide +kernel
theorem dL_law_397 : decode cL_law 397 = .ok (.iload_n 3, 1) := by decide +kernel
theorem dL_law_398 : decode cL_law 398 = .ok (.iconst 4, 1) := by decide +kernel
theorem dL_law_399 : decode cL_law 399 = .ok (.iadd, 1) := by decide +kernel
theorem dL_law_400 : decode cL_law 400 = .ok (.iaload, 1) := by decide +kernel
theorem dL_law_401 : decode cL_law 401 = .ok (.invokevirtual 39, 3) := by decide +kernel
theorem dL_law_404 : decode cL_law 404 = .ok (.if_icmp .eq 1244, 3) := by decide +kernel
set_option maxHeartbeats 4000000 in
set_option maxRecDepth 20000 in
theorem lo_person {p : Program} {l : Launch} {e : Env} {s : State} {m : MethodId} {args : Array Value} {below : List Frame} {meth : Method} {c : Code} {Q : State → Prop} {ad : Nat → Nat} {D : va_G} {cs : Nat → ClassId} {A : Nat → Prop} {hx hm : Nat → Nat} {b L : Nat} {xs : Nat → Int32} (C : Cx p s m args c cL_law 4 RL ad D (tysW cs) A) (X : Scr s A b L xs) (hL : L < 2 ^ 31) {σ τ : Nat → Nat → Int32} (h : Rel σ τ) {i : Nat} (hi : i + 4 < L) (k : ∀ σ2 τ2, Rel σ2 τ2 → VN p l e room_1 s m args below meth c Q D A 4 78 1876 (wX cs hx σ2 ++ wM cs hm τ2) 1648 [(3, .int (nI i)), (2, .ref (hm 0)), (1, .ref (hx 0)), (0, .ref b)] []) : VN p l e room_1 s m args below meth c Q D A 4 78 1876 (wX cs hx σ ++ wM cs hm τ) 356 [(3, .int (nI i)), (2, .ref (hm 0)), (1, .ref (hx 0)), (0, .ref b)] [] := by
  obtain ⟨n, rr⟩ := h.row
  have ho := o_person h rr ((xs (i + 1))) ((xs (i + 2))) ((xs (i + 3))) ((xs (i + 4)))
  refine n_aload_n (pc := 356) C 2 dL_law_356 rfl rfl ?_
  refine n_aload_n (pc := 357) C 3 dL_law_357 rfl rfl ?_
  refine n_iload_n (pc := 358) C 0 dL_law_358 rfl rfl ?_
  refine n_iconst (pc := 359) C (nI 1) dL_law_359 (by decide) ?_
  refine n_iadd (pc := 360) C dL_law_360 ?_
  refine n_sld (pc := 361) C X (i + 1) (nI_add i 1) (by omega) hL dL_law_361 ?_
  refine n_aload_n (pc := 362) C 3 dL_law_362 rfl rfl ?_
  refine n_iload_n (pc := 363) C 0 dL_law_363 rfl rfl ?_
  refine n_iconst (pc := 364) C (nI 2) dL_law_364 (by decide) ?_
  refine n_iadd (pc := 365) C dL_law_365 ?_
  refine n_sld (pc := 366) C X (i + 2) (nI_add i 2) (by omega) hL dL_law_366 ?_
  refine n_aload_n (pc := 367) C 3 dL_law_367 rfl rfl ?_
  refine n_iload_n (pc := 368) C 0 dL_law_368 rfl rfl ?_
  refine n_iconst (pc := 369) C (nI 3) dL_law_369 (by decide) ?_
  refine n_iadd (pc := 370) C dL_law_370 ?_
  refine n_sld (pc := 371) C X (i + 3) (nI_add i 3) (by omega) hL dL_law_371 ?_
  refine n_aload_n (pc := 372) C 3 dL_law_372 rfl rfl ?_
  refine n_iload_n (pc := 373) C 0 dL_law_373 rfl rfl ?_
  refine n_iconst (pc := 374) C (nI 4) dL_law_374 (by decide) ?_
  refine n_iadd (pc := 375) C dL_law_375 ?_
  refine n_sld (pc := 376) C X (i + 4) (nI_add i 4) (by omega) hL dL_law_376 ?_
  refine n_Vi (pc := 377) C (As := [.int (xs (i + 1)), .int (xs (i + 2)), .int (xs (i + 3)), .int (xs (i + 4))]) (rest := []) (b := hx 0) (ci := 5) (q0 := 0) (w' := wX cs hx (su σ 0 (gateF ((inB ((xs (i + 1))) 0 5 && (inB ((xs (i + 2))) 0 99 && (inB ((xs (i + 3))) 0 99 && inB ((xs (i + 4))) 0 99))) && !(decide (n = 8))) (perF n (σ 0) ((xs (i + 1))) ((xs (i + 2))) ((xs (i + 3))) ((xs (i + 4)))) (σ 0))) ++ wM cs hm τ) (t_X5_person l ad D cs hx σ [] (wM cs hm τ) n ((xs (i + 1))) ((xs (i + 2))) ((xs (i + 3))) ((xs (i + 4))) rr.h0 rr.hn rr.rg) mv_X5_person ml_RL_35 rfl ⟨(Nat.le_of_ble_eq_true rfl), (Nat.le_of_ble_eq_true rfl)⟩ ⟨rfl, rfl⟩ rfl rfl rfl rfl rfl rfl (Nat.le_of_ble_eq_true rfl) dL_law_377 (Nat.le_of_ble_eq_true rfl) (Nat.le_of_ble_eq_true rfl) ?_
  refine n_aload_n (pc := 380) C 1 dL_law_380 rfl rfl ?_
  refine n_aload_n (pc := 381) C 3 dL_law_381 rfl rfl ?_
  refine n_iload_n (pc := 382) C 0 dL_law_382 rfl rfl ?_
  refine n_iconst (pc := 383) C (nI 1) dL_law_383 (by decide) ?_
  refine n_iadd (pc := 384) C dL_law_384 ?_
  refine n_sld (pc := 385) C X (i + 1) (nI_add i 1) (by omega) hL dL_law_385 ?_
  refine n_aload_n (pc := 386) C 3 dL_law_386 rfl rfl ?_
  refine n_iload_n (pc := 387) C 0 dL_law_387 rfl rfl ?_
  refine n_iconst (pc := 388) C (nI 2) dL_law_388 (by decide) ?_
  refine n_iadd (pc := 389) C dL_law_389 ?_
  refine n_sld (pc := 390) C X (i + 2) (nI_add i 2) (by omega) hL dL_law_390 ?_
  refine n_aload_n (pc := 391) C 3 dL_law_391 rfl rfl ?_
  refine n_iload_n (pc := 392) C 0 dL_law_392 rfl rfl ?_
  refine n_iconst (pc := 393) C (nI 3) dL_law_393 (by decide) ?_
  refine n_iadd (pc := 394) C dL_law_394 ?_
  refine n_sld (pc := 395) C X (i + 3) (nI_add i 3) (by omega) hL dL_law_395 ?_
  refine n_aload_n (pc := 396) C 3 dL_law_396 rfl rfl ?_
  refine n_iload_n (pc := 397) C 0 dL_law_397 rfl rfl ?_
  refine n_iconst (pc := 398) C (nI 4) dL_law_398 (by decide) ?_
  refine n_iadd (pc := 399) C dL_law_399 ?_
  refine n_sld (pc := 400) C X (i + 4) (nI_add i 4) (by omega) hL dL_law_400 ?_
  refine n_Vi (pc := 401) C (As := [.int (xs (i + 1)), .int (xs (i + 2)), .int (xs (i + 3)), .int (xs (i + 4))]) (rest := [.int _]) (b := hm 0) (ci := 6) (q0 := 0) (w' := wX cs hx (su σ 0 (gateF ((inB ((xs (i + 1))) 0 5 && (inB ((xs (i + 2))) 0 99 && (inB ((xs (i + 3))) 0 99 && inB ((xs (i + 4))) 0 99))) && !(decide (n = 8))) (perF n (σ 0) ((xs (i + 1))) ((xs (i + 2))) ((xs (i + 3))) ((xs (i + 4)))) (σ 0))) ++ wM cs hm (su τ 0 (gateF ((inB ((xs (i + 1))) 0 5 && (inB ((xs (i + 2))) 0 99 && (inB ((xs (i + 3))) 0 99 && inB ((xs (i + 4))) 0 99))) && !(decide (n = 8))) (perF n (τ 0) ((xs (i + 1))) ((xs (i + 2))) ((xs (i + 3))) ((xs (i + 4)))) (τ 0)))) (t_X6_person l ad D cs hm τ (wX cs hx (su σ 0 (gateF ((inB ((xs (i + 1))) 0 5 && (inB ((xs (i + 2))) 0 99 && (inB ((xs (i + 3))) 0 99 && inB ((xs (i + 4))) 0 99))) && !(decide (n = 8))) (perF n (σ 0) ((xs (i + 1))) ((xs (i + 2))) ((xs (i + 3))) ((xs (i + 4)))) (σ 0)))) [] n ((xs (i + 1))) ((xs (i + 2))) ((xs (i + 3))) ((xs (i + 4))) rr.h0' rr.hn) mv_X6_person ml_RL_39 rfl ⟨(Nat.le_of_ble_eq_true rfl), (Nat.le_of_ble_eq_true rfl)⟩ ⟨rfl, rfl⟩ rfl rfl rfl (by rw [List.append_nil]) (by rw [List.append_nil]) rfl (Nat.le_of_ble_eq_true rfl) dL_law_401 (Nat.le_of_ble_eq_true rfl) (Nat.le_of_ble_eq_true rfl) ?_
  refine n_icmp_eq (pc := 404) C 1648 dL_law_404 (by decide) (fun _ => k _ _ ho.2) (fun hne => absurd ho.1 hne)
theorem dL_law_409 : decode cL_law 409 = .ok (.aload_n 1, 1) := by decide +kernel
theorem dL_law_410 : decode cL_law 410 = .ok (.aload_n 0, 1) := by decide +kernel
theorem dL_law_411 : decode cL_law 411 = .ok (.iload_n 3, 1) := by decide +kernel
theorem dL_law_412 : decode cL_law 412 = .ok (.iconst 1, 1) := by decide +kernel
theorem dL_law_413 : decode cL_law 413 = .ok (.iadd, 1) := by decide +kernel
theorem dL_law_414 : decode cL_law 414 = .ok (.iaload, 1) := by decide +kernel
theorem dL_law_415 : decode cL_law 415 = .ok (.aload_n 0, 1) := by decide +kernel
theorem dL_law_416 : decode cL_law 416 = .ok (.iload_n 3, 1) := by decide +kernel
theorem dL_law_417 : decode cL_law 417 = .ok (.iconst 2, 1) := by decide +kernel
theorem dL_law_418 : decode cL_law 418 = .ok (.iadd, 1) := by decide +kernel
theorem dL_law_419 : decode cL_law 419 = .ok (.iaload, 1) := by decide +kernel
theorem dL_law_420 : decode cL_law 420 = .ok (.invokevirtual 40, 3) := by decide +kernel
theorem dL_law_423 : decode cL_law 423 = .ok (.aload_n 2, 1) := by decide +kernel
theorem dL_law_424 : decode cL_law 424 = .ok (.aload_n 0, 1) := by decide +kernel
theorem dL_law_425 : decode cL_law 425 = .ok (.iload_n 3, 1) := by decide +kernel
theorem dL_law_426 : decode cL_law 426 = .ok (.iconst 1, 1) := by decide +kernel
theorem dL_law_427 : decode cL_law 427 = .ok (.iadd, 1) := by decide +kernel
theorem dL_law_428 : decode cL_law 428 = .ok (.iaload, 1) := by decide +kernel
theorem dL_law_429 : decode cL_law 429 = .ok (.aload_n 0, 1) := by decide +kernel
theorem dL_law_430 : decode cL_law 430 = .ok (.iload_n 3, 1) := by decide +kernel
theorem dL_law_431 : decode cL_law 431 = .ok (.iconst 2, 1) := by decide +kernel
theorem dL_law_432 : decode cL_law 432 = .ok (.iadd, 1) := by decide +kernel
theorem dL_law_433 : decode cL_law 433 = .ok (.iaload, 1) := by decide +kernel
theorem dL_law_434 : decode cL_law 434 = .ok (.invokevirtual 43, 3) := by decide +kernel
theorem dL_law_437 : decode cL_law 437 = .ok (.if_icmp .eq 1211, 3) := by decide +kernel
set_option maxHeartbeats 4000000 in
set_option maxRecDepth 20000 in
theorem lo_of {p : Program} {l : Launch} {e : Env} {s : State} {m : MethodId} {args : Array Value} {below : List Frame} {meth : Method} {c : Code} {Q : State → Prop} {ad : Nat → Nat} {D : va_G} {cs : Nat → ClassId} {A : Nat → Prop} {hx hm : Nat → Nat} {b L : Nat} {xs : Nat → Int32} (C : Cx p s m args c cL_law 4 RL ad D (tysW cs) A) (X : Scr s A b L xs) (hL : L < 2 ^ 31) {σ τ : Nat → Nat → Int32} (h : Rel σ τ) {i : Nat} (hi : i + 4 < L) (k : ∀ σ2 τ2, Rel σ2 τ2 → VN p l e room_1 s m args below meth c Q D A 4 78 1876 (wX cs hx σ2 ++ wM cs hm τ2) 1648 [(3, .int (nI i)), (2, .ref (hm 0)), (1, .ref (hx 0)), (0, .ref b)] []) : VN p l e room_1 s m args below meth c Q D A 4 78 1876 (wX cs hx σ ++ wM cs hm τ) 409 [(3, .int (nI i)), (2, .ref (hm 0)), (1, .ref (hx 0)), (0, .ref b)] [] := by
  obtain ⟨n, rr⟩ := h.row
  have ho := o_of h rr ((xs (i + 1))) ((xs (i + 2)))
  refine n_aload_n (pc := 409) C 2 dL_law_409 rfl rfl ?_
  refine n_aload_n (pc := 410) C 3 dL_law_410 rfl rfl ?_
  refine n_iload_n (pc := 411) C 0 dL_law_411 rfl rfl ?_
  refine n_iconst (pc := 412) C (nI 1) dL_law_412 (by decide) ?_
  refine n_iadd (pc := 413) C dL_law_413 ?_
  refine n_sld (pc := 414) C X (i + 1) (nI_add i 1) (by omega) hL dL_law_414 ?_
  refine n_aload_n (pc := 415) C 3 dL_law_415 rfl rfl ?_
  refine n_iload_n (pc := 416) C 0 dL_law_416 rfl rfl ?_
  refine n_iconst (pc := 417) C (nI 2) dL_law_417 (by decide) ?_
  refine n_iadd (pc := 418) C dL_law_418 ?_
  refine n_sld (pc := 419) C X (i + 2) (nI_add i 2) (by omega) hL dL_law_419 ?_
  refine n_Vi (pc := 420) C (As := [.int (xs (i + 1)), .int (xs (i + 2))]) (rest := []) (b := hx 0) (ci := 5) (q0 := 0) (w' := wX cs hx σ ++ wM cs hm τ) (t_X5_of l ad D cs hx σ [] (wM cs hm τ) n ((xs (i + 1))) ((xs (i + 2))) rr.h0 rr.hn rr.rg) mv_X5_of ml_RL_40 rfl ⟨(Nat.le_of_ble_eq_true rfl), (Nat.le_of_ble_eq_true rfl)⟩ ⟨rfl, rfl⟩ rfl rfl rfl rfl rfl rfl (Nat.le_of_ble_eq_true rfl) dL_law_420 (Nat.le_of_ble_eq_true rfl) (Nat.le_of_ble_eq_true rfl) ?_
  refine n_aload_n (pc := 423) C 1 dL_law_423 rfl rfl ?_
  refine n_aload_n (pc := 424) C 3 dL_law_424 rfl rfl ?_
  refine n_iload_n (pc := 425) C 0 dL_law_425 rfl rfl ?_
  refine n_iconst (pc := 426) C (nI 1) dL_law_426 (by decide) ?_
  refine n_iadd (pc := 427) C dL_law_427 ?_
  refine n_sld (pc := 428) C X (i + 1) (nI_add i 1) (by omega) hL dL_law_428 ?_
  refine n_aload_n (pc := 429) C 3 dL_law_429 rfl rfl ?_
  refine n_iload_n (pc := 430) C 0 dL_law_430 rfl rfl ?_
  refine n_iconst (pc := 431) C (nI 2) dL_law_431 (by decide) ?_
  refine n_iadd (pc := 432) C dL_law_432 ?_
  refine n_sld (pc := 433) C X (i + 2) (nI_add i 2) (by omega) hL dL_law_433 ?_
  refine n_Vi (pc := 434) C (As := [.int (xs (i + 1)), .int (xs (i + 2))]) (rest := [.int _]) (b := hm 0) (ci := 6) (q0 := 0) (w' := wX cs hx σ ++ wM cs hm τ) (t_X6_of l ad D cs hm τ (wX cs hx σ) [] n ((xs (i + 1))) ((xs (i + 2))) rr.h0' rr.hn) mv_X6_of ml_RL_43 rfl ⟨(Nat.le_of_ble_eq_true rfl), (Nat.le_of_ble_eq_true rfl)⟩ ⟨rfl, rfl⟩ rfl rfl rfl (by rw [List.append_nil]) (by rw [List.append_nil]) rfl (Nat.le_of_ble_eq_true rfl) dL_law_434 (Nat.le_of_ble_eq_true rfl) (Nat.le_of_ble_eq_true rfl) ?_
  refine n_icmp_eq (pc := 437) C 1648 dL_law_437 (by decide) (fun _ => k _ _ ho.2) (fun hne => absurd ho.1 hne)
theorem dL_law_442 : decode cL_law 442 = .ok (.aload_n 1, 1) := by decide +kernel
theorem dL_law_443 : decode cL_law 443 = .ok (.aload_n 0, 1) := by decide +kernel
theorem dL_law_444 : decode cL_law 444 = .ok (.iload_n 3, 1) := by decide +kernel
theorem dL_law_445 : decode cL_law 445 = .ok (.iconst 1, 1) := by decide +kernel
theorem dL_law_446 : decode cL_law 446 = .ok (.iadd, 1) := by decide +kernel
theorem dL_law_447 : decode cL_law 447 = .ok (.iaload, 1) := by decide +kernel
theorem dL_law_448 : decode cL_law 448 = .ok (.aload_n 0, 1) := by decide +kernel
theorem dL_law_449 : decode cL_law 449 = .ok (.iload_n 3, 1) := by decide +kernel
theorem dL_law_450 : decode cL_law 450 = .ok (.iconst 2, 1) := by decide +kernel
theorem dL_law_451 : decode cL_law 451 = .ok (.iadd, 1) := by decide +kernel
theorem dL_law_452 : decode cL_law 452 = .ok (.iaload, 1) := by decide +kernel
theorem dL_law_453 : decode cL_law 453 = .ok (.invokevirtual 44, 3) := by decide +kernel
theorem dL_law_456 : decode cL_law 456 = .ok (.aload_n 2, 1) := by decide +kernel
theorem dL_law_457 : decode cL_law 457 = .ok (.aload_n 0, 1) := by decide +kernel
theorem dL_law_458 : decode cL_law 458 = .ok (.iload_n 3, 1) := by decide +kernel
theorem dL_law_459 : decode cL_law 459 = .ok (.iconst 1, 1) := by decide +kernel
theorem dL_law_460 : decode cL_law 460 = .ok (.iadd, 1) := by decide +kernel
theorem dL_law_461 : decode cL_law 461 = .ok (.iaload, 1) := by decide +kernel
theorem dL_law_462 : decode cL_law 462 = .ok (.aload_n 0, 1) := by decide +kernel
theorem dL_law_463 : decode cL_law 463 = .ok (.iload_n 3, 1) := by decide +kernel
theorem dL_law_464 : decode cL_law 464 = .ok (.iconst 2, 1) := by decide +kernel
theorem dL_law_465 : decode cL_law 465 = .ok (.iadd, 1) := by decide +kernel
theorem dL_law_466 : decode cL_law 466 = .ok (.iaload, 1) := by decide +kernel
theorem dL_law_467 : decode cL_law 467 = .ok (.invokevirtual 47, 3) := by decide +kernel
theorem dL_law_470 : decode cL_law 470 = .ok (.if_icmp .eq 1178, 3) := by decide +kernel
set_option maxHeartbeats 4000000 in
set_option maxRecDepth 20000 in
theorem lo_does {p : Program} {l : Launch} {e : Env} {s : State} {m : MethodId} {args : Array Value} {below : List Frame} {meth : Method} {c : Code} {Q : State → Prop} {ad : Nat → Nat} {D : va_G} {cs : Nat → ClassId} {A : Nat → Prop} {hx hm : Nat → Nat} {b L : Nat} {xs : Nat → Int32} (C : Cx p s m args c cL_law 4 RL ad D (tysW cs) A) (X : Scr s A b L xs) (hL : L < 2 ^ 31) {σ τ : Nat → Nat → Int32} (h : Rel σ τ) {i : Nat} (hi : i + 4 < L) (k : ∀ σ2 τ2, Rel σ2 τ2 → VN p l e room_1 s m args below meth c Q D A 4 78 1876 (wX cs hx σ2 ++ wM cs hm τ2) 1648 [(3, .int (nI i)), (2, .ref (hm 0)), (1, .ref (hx 0)), (0, .ref b)] []) : VN p l e room_1 s m args below meth c Q D A 4 78 1876 (wX cs hx σ ++ wM cs hm τ) 442 [(3, .int (nI i)), (2, .ref (hm 0)), (1, .ref (hx 0)), (0, .ref b)] [] := by
  obtain ⟨n, rr⟩ := h.row
  have ho := o_does h rr ((xs (i + 1))) ((xs (i + 2)))
  refine n_aload_n (pc := 442) C 2 dL_law_442 rfl rfl ?_
  refine n_aload_n (pc := 443) C 3 dL_law_443 rfl rfl ?_
  refine n_iload_n (pc := 444) C 0 dL_law_444 rfl rfl ?_
  refine n_iconst (pc := 445) C (nI 1) dL_law_445 (by decide) ?_
  refine n_iadd (pc := 446) C dL_law_446 ?_
  refine n_sld (pc := 447) C X (i + 1) (nI_add i 1) (by omega) hL dL_law_447 ?_
  refine n_aload_n (pc := 448) C 3 dL_law_448 rfl rfl ?_
  refine n_iload_n (pc := 449) C 0 dL_law_449 rfl rfl ?_
  refine n_iconst (pc := 450) C (nI 2) dL_law_450 (by decide) ?_
  refine n_iadd (pc := 451) C dL_law_451 ?_
  refine n_sld (pc := 452) C X (i + 2) (nI_add i 2) (by omega) hL dL_law_452 ?_
  refine n_Vi (pc := 453) C (As := [.int (xs (i + 1)), .int (xs (i + 2))]) (rest := []) (b := hx 0) (ci := 5) (q0 := 0) (w' := wX cs hx σ ++ wM cs hm τ) (t_X5_does l ad D cs hx σ [] (wM cs hm τ) n ((xs (i + 1))) ((xs (i + 2))) rr.h0 rr.hn rr.rg) mv_X5_does ml_RL_44 rfl ⟨(Nat.le_of_ble_eq_true rfl), (Nat.le_of_ble_eq_true rfl)⟩ ⟨rfl, rfl⟩ rfl rfl rfl rfl rfl rfl (Nat.le_of_ble_eq_true rfl) dL_law_453 (Nat.le_of_ble_eq_true rfl) (Nat.le_of_ble_eq_true rfl) ?_
  refine n_aload_n (pc := 456) C 1 dL_law_456 rfl rfl ?_
  refine n_aload_n (pc := 457) C 3 dL_law_457 rfl rfl ?_
  refine n_iload_n (pc := 458) C 0 dL_law_458 rfl rfl ?_
  refine n_iconst (pc := 459) C (nI 1) dL_law_459 (by decide) ?_
  refine n_iadd (pc := 460) C dL_law_460 ?_
  refine n_sld (pc := 461) C X (i + 1) (nI_add i 1) (by omega) hL dL_law_461 ?_
  refine n_aload_n (pc := 462) C 3 dL_law_462 rfl rfl ?_
  refine n_iload_n (pc := 463) C 0 dL_law_463 rfl rfl ?_
  refine n_iconst (pc := 464) C (nI 2) dL_law_464 (by decide) ?_
  refine n_iadd (pc := 465) C dL_law_465 ?_
  refine n_sld (pc := 466) C X (i + 2) (nI_add i 2) (by omega) hL dL_law_466 ?_
  refine n_Vi (pc := 467) C (As := [.int (xs (i + 1)), .int (xs (i + 2))]) (rest := [.int _]) (b := hm 0) (ci := 6) (q0 := 0) (w' := wX cs hx σ ++ wM cs hm τ) (t_X6_does l ad D cs hm τ (wX cs hx σ) [] n ((xs (i + 1))) ((xs (i + 2))) rr.h0' rr.hn) mv_X6_does ml_RL_47 rfl ⟨(Nat.le_of_ble_eq_true rfl), (Nat.le_of_ble_eq_true rfl)⟩ ⟨rfl, rfl⟩ rfl rfl rfl (by rw [List.append_nil]) (by rw [List.append_nil]) rfl (Nat.le_of_ble_eq_true rfl) dL_law_467 (Nat.le_of_ble_eq_true rfl) (Nat.le_of_ble_eq_true rfl) ?_
  refine n_icmp_eq (pc := 470) C 1648 dL_law_470 (by decide) (fun _ => k _ _ ho.2) (fun hne => absurd ho.1 hne)
theorem dL_law_475 : decode cL_law 475 = .ok (.aload_n 1, 1) := by decide +kernel
theorem dL_law_476 : decode cL_law 476 = .ok (.aload_n 0, 1) := by decide +kernel
theorem dL_law_477 : decode cL_law 477 = .ok (.iload_n 3, 1) := by decide +kernel
theorem dL_law_478 : decode cL_law 478 = .ok (.iconst 1, 1) := by decide +kernel
theorem dL_law_479 : decode cL_law 479 = .ok (.iadd, 1) := by decide +kernel
theorem dL_law_480 : decode cL_law 480 = .ok (.iaload, 1) := by decide +kernel
theorem dL_law_481 : decode cL_law 481 = .ok (.aload_n 0, 1) := by decide +kernel
theorem dL_law_482 : decode cL_law 482 = .ok (.iload_n 3, 1) := by decide +kernel
theorem dL_law_483 : decode cL_law 483 = .ok (.iconst 2, 1) := by decide +kernel
theorem dL_law_484 : decode cL_law 484 = .ok (.iadd, 1) := by decide +kernel
theorem dL_law_485 : decode cL_law 485 = .ok (.iaload, 1) := by decide +kernel
theorem dL_law_486 : decode cL_law 486 = .ok (.aload_n 0, 1) := by decide +kernel
theorem dL_law_487 : decode cL_law 487 = .ok (.iload_n 3, 1) := by decide +kernel
theorem dL_law_488 : decode cL_law 488 = .ok (.iconst 3, 1) := by decide +kernel
theorem dL_law_489 : decode cL_law 489 = .ok (.iadd, 1) := by decide +kernel
theorem dL_law_490 : decode cL_law 490 = .ok (.iaload, 1) := by decide +kernel
theorem dL_law_491 : decode cL_law 491 = .ok (.invokevirtual 48, 3) := by decide +kernel
theorem dL_law_494 : decode cL_law 494 = .ok (.aload_n 2, 1) := by decide +kernel
theorem dL_law_495 : decode cL_law 495 = .ok (.aload_n 0, 1) := by decide +kernel
theorem dL_law_496 : decode cL_law 496 = .ok (.iload_n 3, 1) := by decide +kernel
theorem dL_law_497 : decode cL_law 497 = .ok (.iconst 1, 1) := by decide +kernel
theorem dL_law_498 : decode cL_law 498 = .ok (.iadd, 1) := by decide +kernel
theorem dL_law_499 : decode cL_law 499 = .ok (.iaload, 1) := by decide +kernel
theorem dL_law_500 : decode cL_law 500 = .ok (.aload_n 0, 1) := by decide +kernel
theorem dL_law_501 : decode cL_law 501 = .ok (.iload_n 3, 1) := by decide +kernel
theorem dL_law_502 : decode cL_law 502 = .ok (.iconst 2, 1) := by decide +kernel
theorem dL_law_503 : decode cL_law 503 = .ok (.iadd, 1) := by decide +kernel
theorem dL_law_504 : decode cL_law 504 = .ok (.iaload, 1) := by decide +kernel
theorem dL_law_505 : decode cL_law 505 = .ok (.aload_n 0, 1) := by decide +kernel
theorem dL_law_506 : decode cL_law 506 = .ok (.iload_n 3, 1) := by decide +kernel
theorem dL_law_507 : decode cL_law 507 = .ok (.iconst 3, 1) := by decide +kernel
theorem dL_law_508 : decode cL_law 508 = .ok (.iadd, 1) := by decide +kernel
theorem dL_law_509 : decode cL_law 509 = .ok (.iaload, 1) := by decide +kernel
theorem dL_law_510 : decode cL_law 510 = .ok (.invokevirtual 52, 3) := by decide +kernel
theorem dL_law_513 : decode cL_law 513 = .ok (.if_icmp .eq 1135, 3) := by decide +kernel
set_option maxHeartbeats 4000000 in
set_option maxRecDepth 20000 in
theorem lo_looks {p : Program} {l : Launch} {e : Env} {s : State} {m : MethodId} {args : Array Value} {below : List Frame} {meth : Method} {c : Code} {Q : State → Prop} {ad : Nat → Nat} {D : va_G} {cs : Nat → ClassId} {A : Nat → Prop} {hx hm : Nat → Nat} {b L : Nat} {xs : Nat → Int32} (C : Cx p s m args c cL_law 4 RL ad D (tysW cs) A) (X : Scr s A b L xs) (hL : L < 2 ^ 31) {σ τ : Nat → Nat → Int32} (h : Rel σ τ) {i : Nat} (hi : i + 4 < L) (k : ∀ σ2 τ2, Rel σ2 τ2 → VN p l e room_1 s m args below meth c Q D A 4 78 1876 (wX cs hx σ2 ++ wM cs hm τ2) 1648 [(3, .int (nI i)), (2, .ref (hm 0)), (1, .ref (hx 0)), (0, .ref b)] []) : VN p l e room_1 s m args below meth c Q D A 4 78 1876 (wX cs hx σ ++ wM cs hm τ) 475 [(3, .int (nI i)), (2, .ref (hm 0)), (1, .ref (hx 0)), (0, .ref b)] [] := by
  obtain ⟨n, rr⟩ := h.row
  have ho := o_looks h rr ((xs (i + 1))) ((xs (i + 2))) ((xs (i + 3)))
  refine n_aload_n (pc := 475) C 2 dL_law_475 rfl rfl ?_
  refine n_aload_n (pc := 476) C 3 dL_law_476 rfl rfl ?_
  refine n_iload_n (pc := 477) C 0 dL_law_477 rfl rfl ?_
  refine n_iconst (pc := 478) C (nI 1) dL_law_478 (by decide) ?_
  refine n_iadd (pc := 479) C dL_law_479 ?_
  refine n_sld (pc := 480) C X (i + 1) (nI_add i 1) (by omega) hL dL_law_480 ?_
  refine n_aload_n (pc := 481) C 3 dL_law_481 rfl rfl ?_
  refine n_iload_n (pc := 482) C 0 dL_law_482 rfl rfl ?_
  refine n_iconst (pc := 483) C (nI 2) dL_law_483 (by decide) ?_
  refine n_iadd (pc := 484) C dL_law_484 ?_
  refine n_sld (pc := 485) C X (i + 2) (nI_add i 2) (by omega) hL dL_law_485 ?_
  refine n_aload_n (pc := 486) C 3 dL_law_486 rfl rfl ?_
  refine n_iload_n (pc := 487) C 0 dL_law_487 rfl rfl ?_
  refine n_iconst (pc := 488) C (nI 3) dL_law_488 (by decide) ?_
  refine n_iadd (pc := 489) C dL_law_489 ?_
  refine n_sld (pc := 490) C X (i + 3) (nI_add i 3) (by omega) hL dL_law_490 ?_
  refine n_Vi (pc := 491) C (As := [.int (xs (i + 1)), .int (xs (i + 2)), .int (xs (i + 3))]) (rest := []) (b := hx 0) (ci := 5) (q0 := 0) (w' := wX cs hx σ ++ wM cs hm τ) (t_X5_looks l ad D cs hx σ [] (wM cs hm τ) n ((xs (i + 1))) ((xs (i + 2))) ((xs (i + 3))) rr.h0 rr.hn rr.rg) mv_X5_looks ml_RL_48 rfl ⟨(Nat.le_of_ble_eq_true rfl), (Nat.le_of_ble_eq_true rfl)⟩ ⟨rfl, rfl⟩ rfl rfl rfl rfl rfl rfl (Nat.le_of_ble_eq_true rfl) dL_law_491 (Nat.le_of_ble_eq_true rfl) (Nat.le_of_ble_eq_true rfl) ?_
  refine n_aload_n (pc := 494) C 1 dL_law_494 rfl rfl ?_
  refine n_aload_n (pc := 495) C 3 dL_law_495 rfl rfl ?_
  refine n_iload_n (pc := 496) C 0 dL_law_496 rfl rfl ?_
  refine n_iconst (pc := 497) C (nI 1) dL_law_497 (by decide) ?_
  refine n_iadd (pc := 498) C dL_law_498 ?_
  refine n_sld (pc := 499) C X (i + 1) (nI_add i 1) (by omega) hL dL_law_499 ?_
  refine n_aload_n (pc := 500) C 3 dL_law_500 rfl rfl ?_
  refine n_iload_n (pc := 501) C 0 dL_law_501 rfl rfl ?_
  refine n_iconst (pc := 502) C (nI 2) dL_law_502 (by decide) ?_
  refine n_iadd (pc := 503) C dL_law_503 ?_
  refine n_sld (pc := 504) C X (i + 2) (nI_add i 2) (by omega) hL dL_law_504 ?_
  refine n_aload_n (pc := 505) C 3 dL_law_505 rfl rfl ?_
  refine n_iload_n (pc := 506) C 0 dL_law_506 rfl rfl ?_
  refine n_iconst (pc := 507) C (nI 3) dL_law_507 (by decide) ?_
  refine n_iadd (pc := 508) C dL_law_508 ?_
  refine n_sld (pc := 509) C X (i + 3) (nI_add i 3) (by omega) hL dL_law_509 ?_
  refine n_Vi (pc := 510) C (As := [.int (xs (i + 1)), .int (xs (i + 2)), .int (xs (i + 3))]) (rest := [.int _]) (b := hm 0) (ci := 6) (q0 := 0) (w' := wX cs hx σ ++ wM cs hm τ) (t_X6_looks l ad D cs hm τ (wX cs hx σ) [] n ((xs (i + 1))) ((xs (i + 2))) ((xs (i + 3))) rr.h0' rr.hn) mv_X6_looks ml_RL_52 rfl ⟨(Nat.le_of_ble_eq_true rfl), (Nat.le_of_ble_eq_true rfl)⟩ ⟨rfl, rfl⟩ rfl rfl rfl (by rw [List.append_nil]) (by rw [List.append_nil]) rfl (Nat.le_of_ble_eq_true rfl) dL_law_510 (Nat.le_of_ble_eq_true rfl) (Nat.le_of_ble_eq_true rfl) ?_
  refine n_icmp_eq (pc := 513) C 1648 dL_law_513 (by decide) (fun _ => k _ _ ho.2) (fun hne => absurd ho.1 hne)
