theorem dL_law_1576 : decode cL_law 1576 = .ok (.aload_n 1, 1) := by decide +kernel
theorem dL_law_1577 : decode cL_law 1577 = .ok (.aload_n 0, 1) := by decide +kernel
theorem dL_law_1578 : decode cL_law 1578 = .ok (.iload_n 3, 1) := by decide +kernel
theorem dL_law_1579 : decode cL_law 1579 = .ok (.iconst 1, 1) := by decide +kernel
theorem dL_law_1580 : decode cL_law 1580 = .ok (.iadd, 1) := by decide +kernel
theorem dL_law_1581 : decode cL_law 1581 = .ok (.iaload, 1) := by decide +kernel
theorem dL_law_1582 : decode cL_law 1582 = .ok (.invokevirtual 183, 3) := by decide +kernel
theorem dL_law_1585 : decode cL_law 1585 = .ok (.aload_n 2, 1) := by decide +kernel
theorem dL_law_1586 : decode cL_law 1586 = .ok (.aload_n 0, 1) := by decide +kernel
theorem dL_law_1587 : decode cL_law 1587 = .ok (.iload_n 3, 1) := by decide +kernel
theorem dL_law_1588 : decode cL_law 1588 = .ok (.iconst 1, 1) := by decide +kernel
theorem dL_law_1589 : decode cL_law 1589 = .ok (.iadd, 1) := by decide +kernel
theorem dL_law_1590 : decode cL_law 1590 = .ok (.iaload, 1) := by decide +kernel
theorem dL_law_1591 : decode cL_law 1591 = .ok (.invokevirtual 186, 3) := by decide +kernel
theorem dL_law_1594 : decode cL_law 1594 = .ok (.if_icmp .eq 54, 3) := by decide +kernel
set_option maxHeartbeats 4000000 in
set_option maxRecDepth 20000 in
theorem lo_trace {p : Program} {l : Launch} {e : Env} {s : State} {m : MethodId} {args : Array Value} {below : List Frame} {meth : Method} {c : Code} {Q : State → Prop} {ad : Nat → Nat} {D : va_G} {cs : Nat → ClassId} {A : Nat → Prop} {hx hm : Nat → Nat} {b L : Nat} {xs : Nat → Int32} (C : Cx p s m args c cL_law 4 RL ad D (tysW cs) A) (X : Scr s A b L xs) (hL : L < 2 ^ 31) {σ τ : Nat → Nat → Int32} (h : Rel σ τ) {i : Nat} (hi : i + 4 < L) (k : ∀ σ2 τ2, Rel σ2 τ2 → VN p l e room_1 s m args below meth c Q D A 4 78 1876 (wX cs hx σ2 ++ wM cs hm τ2) 1648 [(3, .int (nI i)), (2, .ref (hm 0)), (1, .ref (hx 0)), (0, .ref b)] []) : VN p l e room_1 s m args below meth c Q D A 4 78 1876 (wX cs hx σ ++ wM cs hm τ) 1576 [(3, .int (nI i)), (2, .ref (hm 0)), (1, .ref (hx 0)), (0, .ref b)] [] := by
  obtain ⟨n, rr⟩ := h.row
  obtain ⟨r, hr0, hR5, hR6⟩ := h.ran
  have ho := o_trace h rr hr0 hR5 hR6 ((xs (i + 1)))
  refine n_aload_n (pc := 1576) C 2 dL_law_1576 rfl rfl ?_
  refine n_aload_n (pc := 1577) C 3 dL_law_1577 rfl rfl ?_
  refine n_iload_n (pc := 1578) C 0 dL_law_1578 rfl rfl ?_
  refine n_iconst (pc := 1579) C (nI 1) dL_law_1579 (by decide) ?_
  refine n_iadd (pc := 1580) C dL_law_1580 ?_
  refine n_sld (pc := 1581) C X (i + 1) (nI_add i 1) (by omega) hL dL_law_1581 ?_
  refine n_Vi (pc := 1582) C (As := [.int (xs (i + 1))]) (rest := []) (b := hx 0) (ci := 5) (q0 := 0) (w' := wX cs hx σ ++ wM cs hm τ) (t_X5_trace l ad D cs hx σ [] (wM cs hm τ) r ((xs (i + 1))) hR5 hr0) mv_X5_trace ml_RL_183 rfl ⟨(Nat.le_of_ble_eq_true rfl), (Nat.le_of_ble_eq_true rfl)⟩ ⟨rfl, rfl⟩ rfl rfl rfl rfl rfl rfl (Nat.le_of_ble_eq_true rfl) dL_law_1582 (Nat.le_of_ble_eq_true rfl) (Nat.le_of_ble_eq_true rfl) ?_
  refine n_aload_n (pc := 1585) C 1 dL_law_1585 rfl rfl ?_
  refine n_aload_n (pc := 1586) C 3 dL_law_1586 rfl rfl ?_
  refine n_iload_n (pc := 1587) C 0 dL_law_1587 rfl rfl ?_
  refine n_iconst (pc := 1588) C (nI 1) dL_law_1588 (by decide) ?_
  refine n_iadd (pc := 1589) C dL_law_1589 ?_
  refine n_sld (pc := 1590) C X (i + 1) (nI_add i 1) (by omega) hL dL_law_1590 ?_
  refine n_Vi (pc := 1591) C (As := [.int (xs (i + 1))]) (rest := [.int _]) (b := hm 0) (ci := 6) (q0 := 0) (w' := wX cs hx σ ++ wM cs hm τ) (t_X6_trace l ad D cs hm τ (wX cs hx σ) [] n r ((xs (i + 1))) rr.h0' rr.hn hR6 hr0) mv_X6_trace ml_RL_186 rfl ⟨(Nat.le_of_ble_eq_true rfl), (Nat.le_of_ble_eq_true rfl)⟩ ⟨rfl, rfl⟩ rfl rfl rfl (by rw [List.append_nil]) (by rw [List.append_nil]) rfl (Nat.le_of_ble_eq_true rfl) dL_law_1591 (Nat.le_of_ble_eq_true rfl) (Nat.le_of_ble_eq_true rfl) ?_
  refine n_icmp_eq (pc := 1594) C 1648 dL_law_1594 (by decide) (fun _ => k _ _ ho.2) (fun hne => absurd ho.1 hne)
theorem dL_law_1599 : decode cL_law 1599 = .ok (.aload_n 1, 1) := by decide +kernel
theorem dL_law_1600 : decode cL_law 1600 = .ok (.aload_n 0, 1) := by decide +kernel
theorem dL_law_1601 : decode cL_law 1601 = .ok (.iload_n 3, 1) := by decide +kernel
theorem dL_law_1602 : decode cL_law 1602 = .ok (.iconst 1, 1) := by decide +kernel
theorem dL_law_1603 : decode cL_law 1603 = .ok (.iadd, 1) := by decide +kernel
theorem dL_law_1604 : decode cL_law 1604 = .ok (.iaload, 1) := by decide +kernel
theorem dL_law_1605 : decode cL_law 1605 = .ok (.invokevirtual 187, 3) := by decide +kernel
theorem dL_law_1608 : decode cL_law 1608 = .ok (.aload_n 2, 1) := by decide +kernel
theorem dL_law_1609 : decode cL_law 1609 = .ok (.aload_n 0, 1) := by decide +kernel
theorem dL_law_1610 : decode cL_law 1610 = .ok (.iload_n 3, 1) := by decide +kernel
theorem dL_law_1611 : decode cL_law 1611 = .ok (.iconst 1, 1) := by decide +kernel
theorem dL_law_1612 : decode cL_law 1612 = .ok (.iadd, 1) := by decide +kernel
theorem dL_law_1613 : decode cL_law 1613 = .ok (.iaload, 1) := by decide +kernel
theorem dL_law_1614 : decode cL_law 1614 = .ok (.invokevirtual 190, 3) := by decide +kernel
theorem dL_law_1617 : decode cL_law 1617 = .ok (.if_icmp .eq 31, 3) := by decide +kernel
set_option maxHeartbeats 4000000 in
set_option maxRecDepth 20000 in
theorem lo_many {p : Program} {l : Launch} {e : Env} {s : State} {m : MethodId} {args : Array Value} {below : List Frame} {meth : Method} {c : Code} {Q : State → Prop} {ad : Nat → Nat} {D : va_G} {cs : Nat → ClassId} {A : Nat → Prop} {hx hm : Nat → Nat} {b L : Nat} {xs : Nat → Int32} (C : Cx p s m args c cL_law 4 RL ad D (tysW cs) A) (X : Scr s A b L xs) (hL : L < 2 ^ 31) {σ τ : Nat → Nat → Int32} (h : Rel σ τ) {i : Nat} (hi : i + 4 < L) (k : ∀ σ2 τ2, Rel σ2 τ2 → VN p l e room_1 s m args below meth c Q D A 4 78 1876 (wX cs hx σ2 ++ wM cs hm τ2) 1648 [(3, .int (nI i)), (2, .ref (hm 0)), (1, .ref (hx 0)), (0, .ref b)] []) : VN p l e room_1 s m args below meth c Q D A 4 78 1876 (wX cs hx σ ++ wM cs hm τ) 1599 [(3, .int (nI i)), (2, .ref (hm 0)), (1, .ref (hx 0)), (0, .ref b)] [] := by
  obtain ⟨n, rr⟩ := h.row
  obtain ⟨t, ht, hT5, hT6⟩ := h.tap
  obtain ⟨y, hy0, hY5, hY6⟩ := h.rowN
  obtain ⟨r, hr0, hR5, hR6⟩ := h.ran
  have ho := o_many h rr hr0 hR5 hR6 hy0 hY5 hY6 ht hT5 hT6 ((xs (i + 1)))
  refine n_aload_n (pc := 1599) C 2 dL_law_1599 rfl rfl ?_
  refine n_aload_n (pc := 1600) C 3 dL_law_1600 rfl rfl ?_
  refine n_iload_n (pc := 1601) C 0 dL_law_1601 rfl rfl ?_
  refine n_iconst (pc := 1602) C (nI 1) dL_law_1602 (by decide) ?_
  refine n_iadd (pc := 1603) C dL_law_1603 ?_
  refine n_sld (pc := 1604) C X (i + 1) (nI_add i 1) (by omega) hL dL_law_1604 ?_
  refine n_Vi (pc := 1605) C (As := [.int (xs (i + 1))]) (rest := []) (b := hx 0) (ci := 5) (q0 := 0) (w' := wX cs hx σ ++ wM cs hm τ) (t_X5_many l ad D cs hx σ [] (wM cs hm τ) n r y t ((xs (i + 1))) rr.h0 rr.hn rr.rg hR5 hY5 hy0 hT5) mv_X5_many ml_RL_187 rfl ⟨(Nat.le_of_ble_eq_true rfl), (Nat.le_of_ble_eq_true rfl)⟩ ⟨rfl, rfl⟩ rfl rfl rfl rfl rfl rfl (Nat.le_of_ble_eq_true rfl) dL_law_1605 (Nat.le_of_ble_eq_true rfl) (Nat.le_of_ble_eq_true rfl) ?_
  refine n_aload_n (pc := 1608) C 1 dL_law_1608 rfl rfl ?_
  refine n_aload_n (pc := 1609) C 3 dL_law_1609 rfl rfl ?_
  refine n_iload_n (pc := 1610) C 0 dL_law_1610 rfl rfl ?_
  refine n_iconst (pc := 1611) C (nI 1) dL_law_1611 (by decide) ?_
  refine n_iadd (pc := 1612) C dL_law_1612 ?_
  refine n_sld (pc := 1613) C X (i + 1) (nI_add i 1) (by omega) hL dL_law_1613 ?_
  refine n_Vi (pc := 1614) C (As := [.int (xs (i + 1))]) (rest := [.int _]) (b := hm 0) (ci := 6) (q0 := 0) (w' := wX cs hx σ ++ wM cs hm τ) (t_X6_many l ad D cs hm τ (wX cs hx σ) [] n r y t ((xs (i + 1))) rr.h0' rr.hn hR6 hr0 hY6 hy0 hT6 ht) mv_X6_many ml_RL_190 rfl ⟨(Nat.le_of_ble_eq_true rfl), (Nat.le_of_ble_eq_true rfl)⟩ ⟨rfl, rfl⟩ rfl rfl rfl (by rw [List.append_nil]) (by rw [List.append_nil]) rfl (Nat.le_of_ble_eq_true rfl) dL_law_1614 (Nat.le_of_ble_eq_true rfl) (Nat.le_of_ble_eq_true rfl) ?_
  refine n_icmp_eq (pc := 1617) C 1648 dL_law_1617 (by decide) (fun _ => k _ _ ho.2) (fun hne => absurd ho.1 hne)
theorem dL_law_1622 : decode cL_law 1622 = .ok (.aload_n 1, 1) := by decide +kernel
theorem dL_law_1623 : decode cL_law 1623 = .ok (.invokevirtual 191, 3) := by decide +kernel
theorem dL_law_1626 : decode cL_law 1626 = .ok (.aload_n 2, 1) := by decide +kernel
theorem dL_law_1627 : decode cL_law 1627 = .ok (.invokevirtual 194, 3) := by decide +kernel
theorem dL_law_1630 : decode cL_law 1630 = .ok (.if_icmp .eq 18, 3) := by decide +kernel
set_option maxHeartbeats 4000000 in
set_option maxRecDepth 20000 in
theorem lo_keep {p : Program} {l : Launch} {e : Env} {s : State} {m : MethodId} {args : Array Value} {below : List Frame} {meth : Method} {c : Code} {Q : State → Prop} {ad : Nat → Nat} {D : va_G} {cs : Nat → ClassId} {A : Nat → Prop} {hx hm : Nat → Nat} {b L : Nat} {xs : Nat → Int32} (C : Cx p s m args c cL_law 4 RL ad D (tysW cs) A) (X : Scr s A b L xs) (hL : L < 2 ^ 31) {σ τ : Nat → Nat → Int32} (h : Rel σ τ) {i : Nat} (hi : i + 4 < L) (k : ∀ σ2 τ2, Rel σ2 τ2 → VN p l e room_1 s m args below meth c Q D A 4 78 1876 (wX cs hx σ2 ++ wM cs hm τ2) 1648 [(3, .int (nI i)), (2, .ref (hm 0)), (1, .ref (hx 0)), (0, .ref b)] []) : VN p l e room_1 s m args below meth c Q D A 4 78 1876 (wX cs hx σ ++ wM cs hm τ) 1622 [(3, .int (nI i)), (2, .ref (hm 0)), (1, .ref (hx 0)), (0, .ref b)] [] := by
  obtain ⟨n, rr⟩ := h.row
  have ho := o_keep h rr
  refine n_aload_n (pc := 1622) C 2 dL_law_1622 rfl rfl ?_
  refine n_Vi (pc := 1623) C (As := []) (rest := []) (b := hx 0) (ci := 5) (q0 := 0) (w' := wX cs hx (su (su σ 1 (σ 0)) 4 (fun _ => 1)) ++ wM cs hm τ) (t_X5_keep l ad D cs hx σ [] (wM cs hm τ) n) mv_X5_keep ml_RL_191 rfl ⟨(Nat.le_of_ble_eq_true rfl), (Nat.le_of_ble_eq_true rfl)⟩ ⟨rfl, rfl⟩ rfl rfl rfl rfl rfl rfl (Nat.le_of_ble_eq_true rfl) dL_law_1623 (Nat.le_of_ble_eq_true rfl) (Nat.le_of_ble_eq_true rfl) ?_
  refine n_aload_n (pc := 1626) C 1 dL_law_1626 rfl rfl ?_
  refine n_Vi (pc := 1627) C (As := []) (rest := [.int _]) (b := hm 0) (ci := 6) (q0 := 0) (w' := wX cs hx (su (su σ 1 (σ 0)) 4 (fun _ => 1)) ++ wM cs hm (su (su τ 1 (τ 0)) 4 (fun _ => 1))) (t_X6_keep l ad D cs hm τ (wX cs hx (su (su σ 1 (σ 0)) 4 (fun _ => 1))) [] n rr.h0' rr.hn) mv_X6_keep ml_RL_194 rfl ⟨(Nat.le_of_ble_eq_true rfl), (Nat.le_of_ble_eq_true rfl)⟩ ⟨rfl, rfl⟩ rfl rfl rfl (by rw [List.append_nil]) (by rw [List.append_nil]) rfl (Nat.le_of_ble_eq_true rfl) dL_law_1627 (Nat.le_of_ble_eq_true rfl) (Nat.le_of_ble_eq_true rfl) ?_
  refine n_icmp_eq (pc := 1630) C 1648 dL_law_1630 (by decide) (fun _ => k _ _ ho.2) (fun hne => absurd ho.1 hne)
theorem dL_law_1635 : decode cL_law 1635 = .ok (.aload_n 1, 1) := by decide +kernel
theorem dL_law_1636 : decode cL_law 1636 = .ok (.invokevirtual 195, 3) := by decide +kernel
theorem dL_law_1639 : decode cL_law 1639 = .ok (.aload_n 2, 1) := by decide +kernel
theorem dL_law_1640 : decode cL_law 1640 = .ok (.invokevirtual 198, 3) := by decide +kernel
theorem dL_law_1643 : decode cL_law 1643 = .ok (.if_icmp .eq 5, 3) := by decide +kernel
set_option maxHeartbeats 4000000 in
set_option maxRecDepth 20000 in
theorem lo_again {p : Program} {l : Launch} {e : Env} {s : State} {m : MethodId} {args : Array Value} {below : List Frame} {meth : Method} {c : Code} {Q : State → Prop} {ad : Nat → Nat} {D : va_G} {cs : Nat → ClassId} {A : Nat → Prop} {hx hm : Nat → Nat} {b L : Nat} {xs : Nat → Int32} (C : Cx p s m args c cL_law 4 RL ad D (tysW cs) A) (X : Scr s A b L xs) (hL : L < 2 ^ 31) {σ τ : Nat → Nat → Int32} (h : Rel σ τ) {i : Nat} (hi : i + 4 < L) (k : ∀ σ2 τ2, Rel σ2 τ2 → VN p l e room_1 s m args below meth c Q D A 4 78 1876 (wX cs hx σ2 ++ wM cs hm τ2) 1648 [(3, .int (nI i)), (2, .ref (hm 0)), (1, .ref (hx 0)), (0, .ref b)] []) : VN p l e room_1 s m args below meth c Q D A 4 78 1876 (wX cs hx σ ++ wM cs hm τ) 1635 [(3, .int (nI i)), (2, .ref (hm 0)), (1, .ref (hx 0)), (0, .ref b)] [] := by
  obtain ⟨n, rr⟩ := h.row
  have ho := o_again h rr
  refine n_aload_n (pc := 1635) C 2 dL_law_1635 rfl rfl ?_
  refine n_Vi (pc := 1636) C (As := []) (rest := []) (b := hx 0) (ci := 5) (q0 := 0) (w' := wX cs hx (su σ 0 (gateF (decide (¬ σ 4 0 = 0)) (σ 1) (σ 0))) ++ wM cs hm τ) (t_X5_again l ad D cs hx σ [] (wM cs hm τ)) mv_X5_again ml_RL_195 rfl ⟨(Nat.le_of_ble_eq_true rfl), (Nat.le_of_ble_eq_true rfl)⟩ ⟨rfl, rfl⟩ rfl rfl rfl rfl rfl rfl (Nat.le_of_ble_eq_true rfl) dL_law_1636 (Nat.le_of_ble_eq_true rfl) (Nat.le_of_ble_eq_true rfl) ?_
  refine n_aload_n (pc := 1639) C 1 dL_law_1639 rfl rfl ?_
  refine n_Vi (pc := 1640) C (As := []) (rest := [.int _]) (b := hm 0) (ci := 6) (q0 := 0) (w' := wX cs hx (su σ 0 (gateF (decide (¬ σ 4 0 = 0)) (σ 1) (σ 0))) ++ wM cs hm (su τ 0 (gateF (decide (¬ τ 4 0 = 0)) (τ 1) (τ 0)))) (t_X6_again l ad D cs hm τ (wX cs hx (su σ 0 (gateF (decide (¬ σ 4 0 = 0)) (σ 1) (σ 0)))) [] n rr.h0' rr.hn) mv_X6_again ml_RL_198 rfl ⟨(Nat.le_of_ble_eq_true rfl), (Nat.le_of_ble_eq_true rfl)⟩ ⟨rfl, rfl⟩ rfl rfl rfl (by rw [List.append_nil]) (by rw [List.append_nil]) rfl (Nat.le_of_ble_eq_true rfl) dL_law_1640 (Nat.le_of_ble_eq_true rfl) (Nat.le_of_ble_eq_true rfl) ?_
  refine n_icmp_eq (pc := 1643) C 1648 dL_law_1643 (by decide) (fun _ => k _ _ ho.2) (fun hne => absurd ho.1 hne)
