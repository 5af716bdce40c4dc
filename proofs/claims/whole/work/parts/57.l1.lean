theorem dL_law_518 : decode cL_law 518 = .ok (.aload_n 1, 1) := by decide +kernel
theorem dL_law_519 : decode cL_law 519 = .ok (.aload_n 0, 1) := by decide +kernel
theorem dL_law_520 : decode cL_law 520 = .ok (.iload_n 3, 1) := by decide +kernel
theorem dL_law_521 : decode cL_law 521 = .ok (.iconst 1, 1) := by decide +kernel
theorem dL_law_522 : decode cL_law 522 = .ok (.iadd, 1) := by decide +kernel
theorem dL_law_523 : decode cL_law 523 = .ok (.iaload, 1) := by decide +kernel
theorem dL_law_524 : decode cL_law 524 = .ok (.aload_n 0, 1) := by decide +kernel
theorem dL_law_525 : decode cL_law 525 = .ok (.iload_n 3, 1) := by decide +kernel
theorem dL_law_526 : decode cL_law 526 = .ok (.iconst 2, 1) := by decide +kernel
theorem dL_law_527 : decode cL_law 527 = .ok (.iadd, 1) := by decide +kernel
theorem dL_law_528 : decode cL_law 528 = .ok (.iaload, 1) := by decide +kernel
theorem dL_law_529 : decode cL_law 529 = .ok (.aload_n 0, 1) := by decide +kernel
theorem dL_law_530 : decode cL_law 530 = .ok (.iload_n 3, 1) := by decide +kernel
theorem dL_law_531 : decode cL_law 531 = .ok (.iconst 3, 1) := by decide +kernel
theorem dL_law_532 : decode cL_law 532 = .ok (.iadd, 1) := by decide +kernel
theorem dL_law_533 : decode cL_law 533 = .ok (.iaload, 1) := by decide +kernel
theorem dL_law_534 : decode cL_law 534 = .ok (.invokevirtual 53, 3) := by decide +kernel
theorem dL_law_537 : decode cL_law 537 = .ok (.aload_n 2, 1) := by decide +kernel
theorem dL_law_538 : decode cL_law 538 = .ok (.aload_n 0, 1) := by decide +kernel
theorem dL_law_539 : decode cL_law 539 = .ok (.iload_n 3, 1) := by decide +kernel
theorem dL_law_540 : decode cL_law 540 = .ok (.iconst 1, 1) := by decide +kernel
theorem dL_law_541 : decode cL_law 541 = .ok (.iadd, 1) := by decide +kernel
theorem dL_law_542 : decode cL_law 542 = .ok (.iaload, 1) := by decide +kernel
theorem dL_law_543 : decode cL_law 543 = .ok (.aload_n 0, 1) := by decide +kernel
theorem dL_law_544 : decode cL_law 544 = .ok (.iload_n 3, 1) := by decide +kernel
theorem dL_law_545 : decode cL_law 545 = .ok (.iconst 2, 1) := by decide +kernel
theorem dL_law_546 : decode cL_law 546 = .ok (.iadd, 1) := by decide +kernel
theorem dL_law_547 : decode cL_law 547 = .ok (.iaload, 1) := by decide +kernel
theorem dL_law_548 : decode cL_law 548 = .ok (.aload_n 0, 1) := by decide +kernel
theorem dL_law_549 : decode cL_law 549 = .ok (.iload_n 3, 1) := by decide +kernel
theorem dL_law_550 : decode cL_law 550 = .ok (.iconst 3, 1) := by decide +kernel
theorem dL_law_551 : decode cL_law 551 = .ok (.iadd, 1) := by decide +kernel
theorem dL_law_552 : decode cL_law 552 = .ok (.iaload, 1) := by decide +kernel
theorem dL_law_553 : decode cL_law 553 = .ok (.invokevirtual 56, 3) := by decide +kernel
theorem dL_law_556 : decode cL_law 556 = .ok (.if_icmp .eq 1092, 3) := by decide +kernel
set_option maxHeartbeats 4000000 in
set_option maxRecDepth 20000 in
theorem lo_mind {p : Program} {l : Launch} {e : Env} {s : State} {m : MethodId} {args : Array Value} {below : List Frame} {meth : Method} {c : Code} {Q : State → Prop} {ad : Nat → Nat} {D : va_G} {cs : Nat → ClassId} {A : Nat → Prop} {hx hm : Nat → Nat} {b L : Nat} {xs : Nat → Int32} (C : Cx p s m args c cL_law 4 RL ad D (tysW cs) A) (X : Scr s A b L xs) (hL : L < 2 ^ 31) {σ τ : Nat → Nat → Int32} (h : Rel σ τ) {i : Nat} (hi : i + 4 < L) (k : ∀ σ2 τ2, Rel σ2 τ2 → VN p l e room_1 s m args below meth c Q D A 4 78 1876 (wX cs hx σ2 ++ wM cs hm τ2) 1648 [(3, .int (nI i)), (2, .ref (hm 0)), (1, .ref (hx 0)), (0, .ref b)] []) : VN p l e room_1 s m args below meth c Q D A 4 78 1876 (wX cs hx σ ++ wM cs hm τ) 518 [(3, .int (nI i)), (2, .ref (hm 0)), (1, .ref (hx 0)), (0, .ref b)] [] := by
  obtain ⟨n, rr⟩ := h.row
  have ho := o_mind h rr ((xs (i + 1))) ((xs (i + 2))) ((xs (i + 3)))
  refine n_aload_n (pc := 518) C 2 dL_law_518 rfl rfl ?_
  refine n_aload_n (pc := 519) C 3 dL_law_519 rfl rfl ?_
  refine n_iload_n (pc := 520) C 0 dL_law_520 rfl rfl ?_
  refine n_iconst (pc := 521) C (nI 1) dL_law_521 (by decide) ?_
  refine n_iadd (pc := 522) C dL_law_522 ?_
  refine n_sld (pc := 523) C X (i + 1) (nI_add i 1) (by omega) hL dL_law_523 ?_
  refine n_aload_n (pc := 524) C 3 dL_law_524 rfl rfl ?_
  refine n_iload_n (pc := 525) C 0 dL_law_525 rfl rfl ?_
  refine n_iconst (pc := 526) C (nI 2) dL_law_526 (by decide) ?_
  refine n_iadd (pc := 527) C dL_law_527 ?_
  refine n_sld (pc := 528) C X (i + 2) (nI_add i 2) (by omega) hL dL_law_528 ?_
  refine n_aload_n (pc := 529) C 3 dL_law_529 rfl rfl ?_
  refine n_iload_n (pc := 530) C 0 dL_law_530 rfl rfl ?_
  refine n_iconst (pc := 531) C (nI 3) dL_law_531 (by decide) ?_
  refine n_iadd (pc := 532) C dL_law_532 ?_
  refine n_sld (pc := 533) C X (i + 3) (nI_add i 3) (by omega) hL dL_law_533 ?_
  refine n_Vi (pc := 534) C (As := [.int (xs (i + 1)), .int (xs (i + 2)), .int (xs (i + 3))]) (rest := []) (b := hx 0) (ci := 5) (q0 := 0) (w' := wX cs hx (su σ 0 (gateF (oneB n ((xs (i + 1))) && (inB ((xs (i + 2))) 0 5 && inB ((xs (i + 3))) 0 99)) (upd (upd (σ 0) (8 + 5 * ((xs (i + 1))).toNatClampNeg + 2) ((xs (i + 3)))) (8 + 5 * ((xs (i + 1))).toNatClampNeg) ((xs (i + 2)))) (σ 0))) ++ wM cs hm τ) (t_X5_mind l ad D cs hx σ [] (wM cs hm τ) n ((xs (i + 1))) ((xs (i + 2))) ((xs (i + 3))) rr.h0 rr.hn rr.rg) mv_X5_mind ml_RL_53 rfl ⟨(Nat.le_of_ble_eq_true rfl), (Nat.le_of_ble_eq_true rfl)⟩ ⟨rfl, rfl⟩ rfl rfl rfl rfl rfl rfl (Nat.le_of_ble_eq_true rfl) dL_law_534 (Nat.le_of_ble_eq_true rfl) (Nat.le_of_ble_eq_true rfl) ?_
  refine n_aload_n (pc := 537) C 1 dL_law_537 rfl rfl ?_
  refine n_aload_n (pc := 538) C 3 dL_law_538 rfl rfl ?_
  refine n_iload_n (pc := 539) C 0 dL_law_539 rfl rfl ?_
  refine n_iconst (pc := 540) C (nI 1) dL_law_540 (by decide) ?_
  refine n_iadd (pc := 541) C dL_law_541 ?_
  refine n_sld (pc := 542) C X (i + 1) (nI_add i 1) (by omega) hL dL_law_542 ?_
  refine n_aload_n (pc := 543) C 3 dL_law_543 rfl rfl ?_
  refine n_iload_n (pc := 544) C 0 dL_law_544 rfl rfl ?_
  refine n_iconst (pc := 545) C (nI 2) dL_law_545 (by decide) ?_
  refine n_iadd (pc := 546) C dL_law_546 ?_
  refine n_sld (pc := 547) C X (i + 2) (nI_add i 2) (by omega) hL dL_law_547 ?_
  refine n_aload_n (pc := 548) C 3 dL_law_548 rfl rfl ?_
  refine n_iload_n (pc := 549) C 0 dL_law_549 rfl rfl ?_
  refine n_iconst (pc := 550) C (nI 3) dL_law_550 (by decide) ?_
  refine n_iadd (pc := 551) C dL_law_551 ?_
  refine n_sld (pc := 552) C X (i + 3) (nI_add i 3) (by omega) hL dL_law_552 ?_
  refine n_Vi (pc := 553) C (As := [.int (xs (i + 1)), .int (xs (i + 2)), .int (xs (i + 3))]) (rest := [.int _]) (b := hm 0) (ci := 6) (q0 := 0) (w' := wX cs hx (su σ 0 (gateF (oneB n ((xs (i + 1))) && (inB ((xs (i + 2))) 0 5 && inB ((xs (i + 3))) 0 99)) (upd (upd (σ 0) (8 + 5 * ((xs (i + 1))).toNatClampNeg + 2) ((xs (i + 3)))) (8 + 5 * ((xs (i + 1))).toNatClampNeg) ((xs (i + 2)))) (σ 0))) ++ wM cs hm (su τ 0 (gateF (oneB n ((xs (i + 1))) && (inB ((xs (i + 2))) 0 5 && inB ((xs (i + 3))) 0 99)) (upd (upd (τ 0) (8 + 5 * ((xs (i + 1))).toNatClampNeg + 2) ((xs (i + 3)))) (8 + 5 * ((xs (i + 1))).toNatClampNeg) ((xs (i + 2)))) (τ 0)))) (t_X6_mind l ad D cs hm τ (wX cs hx (su σ 0 (gateF (oneB n ((xs (i + 1))) && (inB ((xs (i + 2))) 0 5 && inB ((xs (i + 3))) 0 99)) (upd (upd (σ 0) (8 + 5 * ((xs (i + 1))).toNatClampNeg + 2) ((xs (i + 3)))) (8 + 5 * ((xs (i + 1))).toNatClampNeg) ((xs (i + 2)))) (σ 0)))) [] n ((xs (i + 1))) ((xs (i + 2))) ((xs (i + 3))) rr.h0' rr.hn) mv_X6_mind ml_RL_56 rfl ⟨(Nat.le_of_ble_eq_true rfl), (Nat.le_of_ble_eq_true rfl)⟩ ⟨rfl, rfl⟩ rfl rfl rfl (by rw [List.append_nil]) (by rw [List.append_nil]) rfl (Nat.le_of_ble_eq_true rfl) dL_law_553 (Nat.le_of_ble_eq_true rfl) (Nat.le_of_ble_eq_true rfl) ?_
  refine n_icmp_eq (pc := 556) C 1648 dL_law_556 (by decide) (fun _ => k _ _ ho.2) (fun hne => absurd ho.1 hne)
theorem dL_law_561 : decode cL_law 561 = .ok (.aload_n 1, 1) := by decide +kernel
theorem dL_law_562 : decode cL_law 562 = .ok (.aload_n 0, 1) := by decide +kernel
theorem dL_law_563 : decode cL_law 563 = .ok (.iload_n 3, 1) := by decide +kernel
theorem dL_law_564 : decode cL_law 564 = .ok (.iconst 1, 1) := by decide +kernel
theorem dL_law_565 : decode cL_law 565 = .ok (.iadd, 1) := by decide +kernel
theorem dL_law_566 : decode cL_law 566 = .ok (.iaload, 1) := by decide +kernel
theorem dL_law_567 : decode cL_law 567 = .ok (.aload_n 0, 1) := by decide +kernel
theorem dL_law_568 : decode cL_law 568 = .ok (.iload_n 3, 1) := by decide +kernel
theorem dL_law_569 : decode cL_law 569 = .ok (.iconst 2, 1) := by decide +kernel
theorem dL_law_570 : decode cL_law 570 = .ok (.iadd, 1) := by decide +kernel
theorem dL_law_571 : decode cL_law 571 = .ok (.iaload, 1) := by decide +kernel
theorem dL_law_572 : decode cL_law 572 = .ok (.aload_n 0, 1) := by decide +kernel
theorem dL_law_573 : decode cL_law 573 = .ok (.iload_n 3, 1) := by decide +kernel
theorem dL_law_574 : decode cL_law 574 = .ok (.iconst 3, 1) := by decide +kernel
theorem dL_law_575 : decode cL_law 575 = .ok (.iadd, 1) := by decide +kernel
theorem dL_law_576 : decode cL_law 576 = .ok (.iaload, 1) := by decide +kernel
theorem dL_law_577 : decode cL_law 577 = .ok (.invokevirtual 57, 3) := by decide +kernel
theorem dL_law_580 : decode cL_law 580 = .ok (.aload_n 2, 1) := by decide +kernel
theorem dL_law_581 : decode cL_law 581 = .ok (.aload_n 0, 1) := by decide +kernel
theorem dL_law_582 : decode cL_law 582 = .ok (.iload_n 3, 1) := by decide +kernel
theorem dL_law_583 : decode cL_law 583 = .ok (.iconst 1, 1) := by decide +kernel
theorem dL_law_584 : decode cL_law 584 = .ok (.iadd, 1) := by decide +kernel
theorem dL_law_585 : decode cL_law 585 = .ok (.iaload, 1) := by decide +kernel
theorem dL_law_586 : decode cL_law 586 = .ok (.aload_n 0, 1) := by decide +kernel
theorem dL_law_587 : decode cL_law 587 = .ok (.iload_n 3, 1) := by decide +kernel
theorem dL_law_588 : decode cL_law 588 = .ok (.iconst 2, 1) := by decide +kernel
theorem dL_law_589 : decode cL_law 589 = .ok (.iadd, 1) := by decide +kernel
theorem dL_law_590 : decode cL_law 590 = .ok (.iaload, 1) := by decide +kernel
theorem dL_law_591 : decode cL_law 591 = .ok (.aload_n 0, 1) := by decide +kernel
theorem dL_law_592 : decode cL_law 592 = .ok (.iload_n 3, 1) := by decide +kernel
theorem dL_law_593 : decode cL_law 593 = .ok (.iconst 3, 1) := by decide +kernel
theorem dL_law_594 : decode cL_law 594 = .ok (.iadd, 1) := by decide +kernel
theorem dL_law_595 : decode cL_law 595 = .ok (.iaload, 1) := by decide +kernel
theorem dL_law_596 : decode cL_law 596 = .ok (.invokevirtual 60, 3) := by decide +kernel
theorem dL_law_599 : decode cL_law 599 = .ok (.if_icmp .eq 1049, 3) := by decide +kernel
set_option maxHeartbeats 4000000 in
set_option maxRecDepth 20000 in
theorem lo_change {p : Program} {l : Launch} {e : Env} {s : State} {m : MethodId} {args : Array Value} {below : List Frame} {meth : Method} {c : Code} {Q : State → Prop} {ad : Nat → Nat} {D : va_G} {cs : Nat → ClassId} {A : Nat → Prop} {hx hm : Nat → Nat} {b L : Nat} {xs : Nat → Int32} (C : Cx p s m args c cL_law 4 RL ad D (tysW cs) A) (X : Scr s A b L xs) (hL : L < 2 ^ 31) {σ τ : Nat → Nat → Int32} (h : Rel σ τ) {i : Nat} (hi : i + 4 < L) (k : ∀ σ2 τ2, Rel σ2 τ2 → VN p l e room_1 s m args below meth c Q D A 4 78 1876 (wX cs hx σ2 ++ wM cs hm τ2) 1648 [(3, .int (nI i)), (2, .ref (hm 0)), (1, .ref (hx 0)), (0, .ref b)] []) : VN p l e room_1 s m args below meth c Q D A 4 78 1876 (wX cs hx σ ++ wM cs hm τ) 561 [(3, .int (nI i)), (2, .ref (hm 0)), (1, .ref (hx 0)), (0, .ref b)] [] := by
  obtain ⟨n, rr⟩ := h.row
  have ho := o_change h rr ((xs (i + 1))) ((xs (i + 2))) ((xs (i + 3)))
  refine n_aload_n (pc := 561) C 2 dL_law_561 rfl rfl ?_
  refine n_aload_n (pc := 562) C 3 dL_law_562 rfl rfl ?_
  refine n_iload_n (pc := 563) C 0 dL_law_563 rfl rfl ?_
  refine n_iconst (pc := 564) C (nI 1) dL_law_564 (by decide) ?_
  refine n_iadd (pc := 565) C dL_law_565 ?_
  refine n_sld (pc := 566) C X (i + 1) (nI_add i 1) (by omega) hL dL_law_566 ?_
  refine n_aload_n (pc := 567) C 3 dL_law_567 rfl rfl ?_
  refine n_iload_n (pc := 568) C 0 dL_law_568 rfl rfl ?_
  refine n_iconst (pc := 569) C (nI 2) dL_law_569 (by decide) ?_
  refine n_iadd (pc := 570) C dL_law_570 ?_
  refine n_sld (pc := 571) C X (i + 2) (nI_add i 2) (by omega) hL dL_law_571 ?_
  refine n_aload_n (pc := 572) C 3 dL_law_572 rfl rfl ?_
  refine n_iload_n (pc := 573) C 0 dL_law_573 rfl rfl ?_
  refine n_iconst (pc := 574) C (nI 3) dL_law_574 (by decide) ?_
  refine n_iadd (pc := 575) C dL_law_575 ?_
  refine n_sld (pc := 576) C X (i + 3) (nI_add i 3) (by omega) hL dL_law_576 ?_
  refine n_Vi (pc := 577) C (As := [.int (xs (i + 1)), .int (xs (i + 2)), .int (xs (i + 3))]) (rest := []) (b := hx 0) (ci := 5) (q0 := 0) (w' := wX cs hx (su σ 0 (gateF (oneB n ((xs (i + 1))) && canB ((xs (i + 2))) ((xs (i + 3)))) (upd (σ 0) (8 + 5 * ((xs (i + 1))).toNatClampNeg + ((xs (i + 2))).toNatClampNeg) ((xs (i + 3)))) (σ 0))) ++ wM cs hm τ) (t_X5_change l ad D cs hx σ [] (wM cs hm τ) n ((xs (i + 1))) ((xs (i + 2))) ((xs (i + 3))) rr.h0 rr.hn rr.rg) mv_X5_change ml_RL_57 rfl ⟨(Nat.le_of_ble_eq_true rfl), (Nat.le_of_ble_eq_true rfl)⟩ ⟨rfl, rfl⟩ rfl rfl rfl rfl rfl rfl (Nat.le_of_ble_eq_true rfl) dL_law_577 (Nat.le_of_ble_eq_true rfl) (Nat.le_of_ble_eq_true rfl) ?_
  refine n_aload_n (pc := 580) C 1 dL_law_580 rfl rfl ?_
  refine n_aload_n (pc := 581) C 3 dL_law_581 rfl rfl ?_
  refine n_iload_n (pc := 582) C 0 dL_law_582 rfl rfl ?_
  refine n_iconst (pc := 583) C (nI 1) dL_law_583 (by decide) ?_
  refine n_iadd (pc := 584) C dL_law_584 ?_
  refine n_sld (pc := 585) C X (i + 1) (nI_add i 1) (by omega) hL dL_law_585 ?_
  refine n_aload_n (pc := 586) C 3 dL_law_586 rfl rfl ?_
  refine n_iload_n (pc := 587) C 0 dL_law_587 rfl rfl ?_
  refine n_iconst (pc := 588) C (nI 2) dL_law_588 (by decide) ?_
  refine n_iadd (pc := 589) C dL_law_589 ?_
  refine n_sld (pc := 590) C X (i + 2) (nI_add i 2) (by omega) hL dL_law_590 ?_
  refine n_aload_n (pc := 591) C 3 dL_law_591 rfl rfl ?_
  refine n_iload_n (pc := 592) C 0 dL_law_592 rfl rfl ?_
  refine n_iconst (pc := 593) C (nI 3) dL_law_593 (by decide) ?_
  refine n_iadd (pc := 594) C dL_law_594 ?_
  refine n_sld (pc := 595) C X (i + 3) (nI_add i 3) (by omega) hL dL_law_595 ?_
  refine n_Vi (pc := 596) C (As := [.int (xs (i + 1)), .int (xs (i + 2)), .int (xs (i + 3))]) (rest := [.int _]) (b := hm 0) (ci := 6) (q0 := 0) (w' := wX cs hx (su σ 0 (gateF (oneB n ((xs (i + 1))) && canB ((xs (i + 2))) ((xs (i + 3)))) (upd (σ 0) (8 + 5 * ((xs (i + 1))).toNatClampNeg + ((xs (i + 2))).toNatClampNeg) ((xs (i + 3)))) (σ 0))) ++ wM cs hm (su τ 0 (gateF (oneB n ((xs (i + 1))) && canB ((xs (i + 2))) ((xs (i + 3)))) (upd (τ 0) (8 + 5 * ((xs (i + 1))).toNatClampNeg + ((xs (i + 2))).toNatClampNeg) ((xs (i + 3)))) (τ 0)))) (t_X6_change l ad D cs hm τ (wX cs hx (su σ 0 (gateF (oneB n ((xs (i + 1))) && canB ((xs (i + 2))) ((xs (i + 3)))) (upd (σ 0) (8 + 5 * ((xs (i + 1))).toNatClampNeg + ((xs (i + 2))).toNatClampNeg) ((xs (i + 3)))) (σ 0)))) [] n ((xs (i + 1))) ((xs (i + 2))) ((xs (i + 3))) rr.h0' rr.hn) mv_X6_change ml_RL_60 rfl ⟨(Nat.le_of_ble_eq_true rfl), (Nat.le_of_ble_eq_true rfl)⟩ ⟨rfl, rfl⟩ rfl rfl rfl (by rw [List.append_nil]) (by rw [List.append_nil]) rfl (Nat.le_of_ble_eq_true rfl) dL_law_596 (Nat.le_of_ble_eq_true rfl) (Nat.le_of_ble_eq_true rfl) ?_
  refine n_icmp_eq (pc := 599) C 1648 dL_law_599 (by decide) (fun _ => k _ _ ho.2) (fun hne => absurd ho.1 hne)
theorem dL_law_604 : decode cL_law 604 = .ok (.aload_n 1, 1) := by decide +kernel
theorem dL_law_605 : decode cL_law 605 = .ok (.aload_n 0, 1) := by decide +kernel
theorem dL_law_606 : decode cL_law 606 = .ok (.iload_n 3, 1) := by decide +kernel
theorem dL_law_607 : decode cL_law 607 = .ok (.iconst 1, 1) := by decide +kernel
theorem dL_law_608 : decode cL_law 608 = .ok (.iadd, 1) := by decide +kernel
theorem dL_law_609 : decode cL_law 609 = .ok (.iaload, 1) := by decide +kernel
theorem dL_law_610 : decode cL_law 610 = .ok (.aload_n 0, 1) := by decide +kernel
theorem dL_law_611 : decode cL_law 611 = .ok (.iload_n 3, 1) := by decide +kernel
theorem dL_law_612 : decode cL_law 612 = .ok (.iconst 2, 1) := by decide +kernel
theorem dL_law_613 : decode cL_law 613 = .ok (.iadd, 1) := by decide +kernel
theorem dL_law_614 : decode cL_law 614 = .ok (.iaload, 1) := by decide +kernel
theorem dL_law_615 : decode cL_law 615 = .ok (.invokevirtual 61, 3) := by decide +kernel
theorem dL_law_618 : decode cL_law 618 = .ok (.aload_n 2, 1) := by decide +kernel
theorem dL_law_619 : decode cL_law 619 = .ok (.aload_n 0, 1) := by decide +kernel
theorem dL_law_620 : decode cL_law 620 = .ok (.iload_n 3, 1) := by decide +kernel
theorem dL_law_621 : decode cL_law 621 = .ok (.iconst 1, 1) := by decide +kernel
theorem dL_law_622 : decode cL_law 622 = .ok (.iadd, 1) := by decide +kernel
theorem dL_law_623 : decode cL_law 623 = .ok (.iaload, 1) := by decide +kernel
theorem dL_law_624 : decode cL_law 624 = .ok (.aload_n 0, 1) := by decide +kernel
theorem dL_law_625 : decode cL_law 625 = .ok (.iload_n 3, 1) := by decide +kernel
theorem dL_law_626 : decode cL_law 626 = .ok (.iconst 2, 1) := by decide +kernel
theorem dL_law_627 : decode cL_law 627 = .ok (.iadd, 1) := by decide +kernel
theorem dL_law_628 : decode cL_law 628 = .ok (.iaload, 1) := by decide +kernel
theorem dL_law_629 : decode cL_law 629 = .ok (.invokevirtual 64, 3) := by decide +kernel
theorem dL_law_632 : decode cL_law 632 = .ok (.if_icmp .eq 1016, 3) := by decide +kernel
set_option maxHeartbeats 4000000 in
set_option maxRecDepth 20000 in
theorem lo_trade {p : Program} {l : Launch} {e : Env} {s : State} {m : MethodId} {args : Array Value} {below : List Frame} {meth : Method} {c : Code} {Q : State → Prop} {ad : Nat → Nat} {D : va_G} {cs : Nat → ClassId} {A : Nat → Prop} {hx hm : Nat → Nat} {b L : Nat} {xs : Nat → Int32} (C : Cx p s m args c cL_law 4 RL ad D (tysW cs) A) (X : Scr s A b L xs) (hL : L < 2 ^ 31) {σ τ : Nat → Nat → Int32} (h : Rel σ τ) {i : Nat} (hi : i + 4 < L) (k : ∀ σ2 τ2, Rel σ2 τ2 → VN p l e room_1 s m args below meth c Q D A 4 78 1876 (wX cs hx σ2 ++ wM cs hm τ2) 1648 [(3, .int (nI i)), (2, .ref (hm 0)), (1, .ref (hx 0)), (0, .ref b)] []) : VN p l e room_1 s m args below meth c Q D A 4 78 1876 (wX cs hx σ ++ wM cs hm τ) 604 [(3, .int (nI i)), (2, .ref (hm 0)), (1, .ref (hx 0)), (0, .ref b)] [] := by
  obtain ⟨n, rr⟩ := h.row
  have ho := o_trade h rr ((xs (i + 1))) ((xs (i + 2)))
  refine n_aload_n (pc := 604) C 2 dL_law_604 rfl rfl ?_
  refine n_aload_n (pc := 605) C 3 dL_law_605 rfl rfl ?_
  refine n_iload_n (pc := 606) C 0 dL_law_606 rfl rfl ?_
  refine n_iconst (pc := 607) C (nI 1) dL_law_607 (by decide) ?_
  refine n_iadd (pc := 608) C dL_law_608 ?_
  refine n_sld (pc := 609) C X (i + 1) (nI_add i 1) (by omega) hL dL_law_609 ?_
  refine n_aload_n (pc := 610) C 3 dL_law_610 rfl rfl ?_
  refine n_iload_n (pc := 611) C 0 dL_law_611 rfl rfl ?_
  refine n_iconst (pc := 612) C (nI 2) dL_law_612 (by decide) ?_
  refine n_iadd (pc := 613) C dL_law_613 ?_
  refine n_sld (pc := 614) C X (i + 2) (nI_add i 2) (by omega) hL dL_law_614 ?_
  refine n_Vi (pc := 615) C (As := [.int (xs (i + 1)), .int (xs (i + 2))]) (rest := []) (b := hx 0) (ci := 5) (q0 := 0) (w' := wX cs hx (su σ 0 (gateF (twoB n ((xs (i + 1))) ((xs (i + 2)))) (chgF (σ 0) ((xs (i + 1))).toNatClampNeg ((xs (i + 2))).toNatClampNeg 5) (σ 0))) ++ wM cs hm τ) (t_X5_trade l ad D cs hx σ [] (wM cs hm τ) n ((xs (i + 1))) ((xs (i + 2))) rr.h0 rr.hn rr.rg) mv_X5_trade ml_RL_61 rfl ⟨(Nat.le_of_ble_eq_true rfl), (Nat.le_of_ble_eq_true rfl)⟩ ⟨rfl, rfl⟩ rfl rfl rfl rfl rfl rfl (Nat.le_of_ble_eq_true rfl) dL_law_615 (Nat.le_of_ble_eq_true rfl) (Nat.le_of_ble_eq_true rfl) ?_
  refine n_aload_n (pc := 618) C 1 dL_law_618 rfl rfl ?_
  refine n_aload_n (pc := 619) C 3 dL_law_619 rfl rfl ?_
  refine n_iload_n (pc := 620) C 0 dL_law_620 rfl rfl ?_
  refine n_iconst (pc := 621) C (nI 1) dL_law_621 (by decide) ?_
  refine n_iadd (pc := 622) C dL_law_622 ?_
  refine n_sld (pc := 623) C X (i + 1) (nI_add i 1) (by omega) hL dL_law_623 ?_
  refine n_aload_n (pc := 624) C 3 dL_law_624 rfl rfl ?_
  refine n_iload_n (pc := 625) C 0 dL_law_625 rfl rfl ?_
  refine n_iconst (pc := 626) C (nI 2) dL_law_626 (by decide) ?_
  refine n_iadd (pc := 627) C dL_law_627 ?_
  refine n_sld (pc := 628) C X (i + 2) (nI_add i 2) (by omega) hL dL_law_628 ?_
  refine n_Vi (pc := 629) C (As := [.int (xs (i + 1)), .int (xs (i + 2))]) (rest := [.int _]) (b := hm 0) (ci := 6) (q0 := 0) (w' := wX cs hx (su σ 0 (gateF (twoB n ((xs (i + 1))) ((xs (i + 2)))) (chgF (σ 0) ((xs (i + 1))).toNatClampNeg ((xs (i + 2))).toNatClampNeg 5) (σ 0))) ++ wM cs hm (su τ 0 (gateF (twoB n ((xs (i + 1))) ((xs (i + 2)))) (chgF (τ 0) ((xs (i + 1))).toNatClampNeg ((xs (i + 2))).toNatClampNeg 5) (τ 0)))) (t_X6_trade l ad D cs hm τ (wX cs hx (su σ 0 (gateF (twoB n ((xs (i + 1))) ((xs (i + 2)))) (chgF (σ 0) ((xs (i + 1))).toNatClampNeg ((xs (i + 2))).toNatClampNeg 5) (σ 0)))) [] n ((xs (i + 1))) ((xs (i + 2))) rr.h0' rr.hn) mv_X6_trade ml_RL_64 rfl ⟨(Nat.le_of_ble_eq_true rfl), (Nat.le_of_ble_eq_true rfl)⟩ ⟨rfl, rfl⟩ rfl rfl rfl (by rw [List.append_nil]) (by rw [List.append_nil]) rfl (Nat.le_of_ble_eq_true rfl) dL_law_629 (Nat.le_of_ble_eq_true rfl) (Nat.le_of_ble_eq_true rfl) ?_
  refine n_icmp_eq (pc := 632) C 1648 dL_law_632 (by decide) (fun _ => k _ _ ho.2) (fun hne => absurd ho.1 hne)
theorem dL_law_637 : decode cL_law 637 = .ok (.aload_n 1, 1) := by decide +kernel
theorem dL_law_638 : decode cL_law 638 = .ok (.aload_n 0, 1) := by decide +kernel
theorem dL_law_639 : decode cL_law 639 = .ok (.iload_n 3, 1) := by decide +kernel
theorem dL_law_640 : decode cL_law 640 = .ok (.iconst 1, 1) := by decide +kernel
theorem dL_law_641 : decode cL_law 641 = .ok (.iadd, 1) := by decide +kernel
theorem dL_law_642 : decode cL_law 642 = .ok (.iaload, 1) := by decide +kernel
theorem dL_law_643 : decode cL_law 643 = .ok (.invokevirtual 65, 3) := by decide +kernel
theorem dL_law_646 : decode cL_law 646 = .ok (.aload_n 2, 1) := by decide +kernel
theorem dL_law_647 : decode cL_law 647 = .ok (.aload_n 0, 1) := by decide +kernel
theorem dL_law_648 : decode cL_law 648 = .ok (.iload_n 3, 1) := by decide +kernel
theorem dL_law_649 : decode cL_law 649 = .ok (.iconst 1, 1) := by decide +kernel
theorem dL_law_650 : decode cL_law 650 = .ok (.iadd, 1) := by decide +kernel
theorem dL_law_651 : decode cL_law 651 = .ok (.iaload, 1) := by decide +kernel
theorem dL_law_652 : decode cL_law 652 = .ok (.invokevirtual 68, 3) := by decide +kernel
theorem dL_law_655 : decode cL_law 655 = .ok (.if_icmp .eq 993, 3) := by decide +kernel
set_option maxHeartbeats 4000000 in
set_option maxRecDepth 20000 in
theorem lo_days {p : Program} {l : Launch} {e : Env} {s : State} {m : MethodId} {args : Array Value} {below : List Frame} {meth : Method} {c : Code} {Q : State → Prop} {ad : Nat → Nat} {D : va_G} {cs : Nat → ClassId} {A : Nat → Prop} {hx hm : Nat → Nat} {b L : Nat} {xs : Nat → Int32} (C : Cx p s m args c cL_law 4 RL ad D (tysW cs) A) (X : Scr s A b L xs) (hL : L < 2 ^ 31) {σ τ : Nat → Nat → Int32} (h : Rel σ τ) {i : Nat} (hi : i + 4 < L) (k : ∀ σ2 τ2, Rel σ2 τ2 → VN p l e room_1 s m args below meth c Q D A 4 78 1876 (wX cs hx σ2 ++ wM cs hm τ2) 1648 [(3, .int (nI i)), (2, .ref (hm 0)), (1, .ref (hx 0)), (0, .ref b)] []) : VN p l e room_1 s m args below meth c Q D A 4 78 1876 (wX cs hx σ ++ wM cs hm τ) 637 [(3, .int (nI i)), (2, .ref (hm 0)), (1, .ref (hx 0)), (0, .ref b)] [] := by
  obtain ⟨n, rr⟩ := h.row
  have ho := o_days h rr ((xs (i + 1)))
  refine n_aload_n (pc := 637) C 2 dL_law_637 rfl rfl ?_
  refine n_aload_n (pc := 638) C 3 dL_law_638 rfl rfl ?_
  refine n_iload_n (pc := 639) C 0 dL_law_639 rfl rfl ?_
  refine n_iconst (pc := 640) C (nI 1) dL_law_640 (by decide) ?_
  refine n_iadd (pc := 641) C dL_law_641 ?_
  refine n_sld (pc := 642) C X (i + 1) (nI_add i 1) (by omega) hL dL_law_642 ?_
  refine n_Vi (pc := 643) C (As := [.int (xs (i + 1))]) (rest := []) (b := hx 0) (ci := 5) (q0 := 0) (w' := wX cs hx (su σ 0 (gateF (inB ((xs (i + 1))) 1 60) (daysF n (σ 0) ((xs (i + 1))).toNatClampNeg) (σ 0))) ++ wM cs hm τ) (t_X5_days l ad D cs hx σ [] (wM cs hm τ) n ((xs (i + 1))) rr.h0 rr.hn rr.rg) mv_X5_days ml_RL_65 rfl ⟨(Nat.le_of_ble_eq_true rfl), (Nat.le_of_ble_eq_true rfl)⟩ ⟨rfl, rfl⟩ rfl rfl rfl rfl rfl rfl (Nat.le_of_ble_eq_true rfl) dL_law_643 (Nat.le_of_ble_eq_true rfl) (Nat.le_of_ble_eq_true rfl) ?_
  refine n_aload_n (pc := 646) C 1 dL_law_646 rfl rfl ?_
  refine n_aload_n (pc := 647) C 3 dL_law_647 rfl rfl ?_
  refine n_iload_n (pc := 648) C 0 dL_law_648 rfl rfl ?_
  refine n_iconst (pc := 649) C (nI 1) dL_law_649 (by decide) ?_
  refine n_iadd (pc := 650) C dL_law_650 ?_
  refine n_sld (pc := 651) C X (i + 1) (nI_add i 1) (by omega) hL dL_law_651 ?_
  refine n_Vi (pc := 652) C (As := [.int (xs (i + 1))]) (rest := [.int _]) (b := hm 0) (ci := 6) (q0 := 0) (w' := wX cs hx (su σ 0 (gateF (inB ((xs (i + 1))) 1 60) (daysF n (σ 0) ((xs (i + 1))).toNatClampNeg) (σ 0))) ++ wM cs hm (su τ 0 (gateF (inB ((xs (i + 1))) 1 60) (daysF n (τ 0) ((xs (i + 1))).toNatClampNeg) (τ 0)))) (t_X6_days l ad D cs hm τ (wX cs hx (su σ 0 (gateF (inB ((xs (i + 1))) 1 60) (daysF n (σ 0) ((xs (i + 1))).toNatClampNeg) (σ 0)))) [] n ((xs (i + 1))) rr.h0' rr.hn) mv_X6_days ml_RL_68 rfl ⟨(Nat.le_of_ble_eq_true rfl), (Nat.le_of_ble_eq_true rfl)⟩ ⟨rfl, rfl⟩ rfl rfl rfl (by rw [List.append_nil]) (by rw [List.append_nil]) rfl (Nat.le_of_ble_eq_true rfl) dL_law_652 (Nat.le_of_ble_eq_true rfl) (Nat.le_of_ble_eq_true rfl) ?_
  refine n_icmp_eq (pc := 655) C 1648 dL_law_655 (by decide) (fun _ => k _ _ ho.2) (fun hne => absurd ho.1 hne)
theorem dL_law_660 : decode cL_law 660 = .ok (.aload_n 1, 1) := by decide +kernel
theorem dL_law_661 : decode cL_law 661 = .ok (.aload_n 0, 1) := by decide +kernel
theorem dL_law_662 : decode cL_law 662 = .ok (.iload_n 3, 1) := by decide +kernel
theorem dL_law_663 : decode cL_law 663 = .ok (.iconst 1, 1) := by decide +kernel
theorem dL_law_664 : decode cL_law 664 = .ok (.iadd, 1) := by decide +kernel
theorem dL_law_665 : decode cL_law 665 = .ok (.iaload, 1) := by decide +kernel
theorem dL_law_666 : decode cL_law 666 = .ok (.invokevirtual 69, 3) := by decide +kernel
theorem dL_law_669 : decode cL_law 669 = .ok (.aload_n 2, 1) := by decide +kernel
theorem dL_law_670 : decode cL_law 670 = .ok (.aload_n 0, 1) := by decide +kernel
theorem dL_law_671 : decode cL_law 671 = .ok (.iload_n 3, 1) := by decide +kernel
theorem dL_law_672 : decode cL_law 672 = .ok (.iconst 1, 1) := by decide +kernel
theorem dL_law_673 : decode cL_law 673 = .ok (.iadd, 1) := by decide +kernel
theorem dL_law_674 : decode cL_law 674 = .ok (.iaload, 1) := by decide +kernel
theorem dL_law_675 : decode cL_law 675 = .ok (.invokevirtual 72, 3) := by decide +kernel
theorem dL_law_678 : decode cL_law 678 = .ok (.if_icmp .eq 970, 3) := by decide +kernel
set_option maxHeartbeats 4000000 in
set_option maxRecDepth 20000 in
theorem lo_seed {p : Program} {l : Launch} {e : Env} {s : State} {m : MethodId} {args : Array Value} {below : List Frame} {meth : Method} {c : Code} {Q : State → Prop} {ad : Nat → Nat} {D : va_G} {cs : Nat → ClassId} {A : Nat → Prop} {hx hm : Nat → Nat} {b L : Nat} {xs : Nat → Int32} (C : Cx p s m args c cL_law 4 RL ad D (tysW cs) A) (X : Scr s A b L xs) (hL : L < 2 ^ 31) {σ τ : Nat → Nat → Int32} (h : Rel σ τ) {i : Nat} (hi : i + 4 < L) (k : ∀ σ2 τ2, Rel σ2 τ2 → VN p l e room_1 s m args below meth c Q D A 4 78 1876 (wX cs hx σ2 ++ wM cs hm τ2) 1648 [(3, .int (nI i)), (2, .ref (hm 0)), (1, .ref (hx 0)), (0, .ref b)] []) : VN p l e room_1 s m args below meth c Q D A 4 78 1876 (wX cs hx σ ++ wM cs hm τ) 660 [(3, .int (nI i)), (2, .ref (hm 0)), (1, .ref (hx 0)), (0, .ref b)] [] := by
  obtain ⟨n, rr⟩ := h.row
  have ho := o_seed h rr ((xs (i + 1)))
  refine n_aload_n (pc := 660) C 2 dL_law_660 rfl rfl ?_
  refine n_aload_n (pc := 661) C 3 dL_law_661 rfl rfl ?_
  refine n_iload_n (pc := 662) C 0 dL_law_662 rfl rfl ?_
  refine n_iconst (pc := 663) C (nI 1) dL_law_663 (by decide) ?_
  refine n_iadd (pc := 664) C dL_law_664 ?_
  refine n_sld (pc := 665) C X (i + 1) (nI_add i 1) (by omega) hL dL_law_665 ?_
  refine n_Vi (pc := 666) C (As := [.int (xs (i + 1))]) (rest := []) (b := hx 0) (ci := 5) (q0 := 0) (w' := wX cs hx (su σ 0 (upd (σ 0) 2 ((xs (i + 1))))) ++ wM cs hm τ) (t_X5_seed l ad D cs hx σ [] (wM cs hm τ) ((xs (i + 1)))) mv_X5_seed ml_RL_69 rfl ⟨(Nat.le_of_ble_eq_true rfl), (Nat.le_of_ble_eq_true rfl)⟩ ⟨rfl, rfl⟩ rfl rfl rfl rfl rfl rfl (Nat.le_of_ble_eq_true rfl) dL_law_666 (Nat.le_of_ble_eq_true rfl) (Nat.le_of_ble_eq_true rfl) ?_
  refine n_aload_n (pc := 669) C 1 dL_law_669 rfl rfl ?_
  refine n_aload_n (pc := 670) C 3 dL_law_670 rfl rfl ?_
  refine n_iload_n (pc := 671) C 0 dL_law_671 rfl rfl ?_
  refine n_iconst (pc := 672) C (nI 1) dL_law_672 (by decide) ?_
  refine n_iadd (pc := 673) C dL_law_673 ?_
  refine n_sld (pc := 674) C X (i + 1) (nI_add i 1) (by omega) hL dL_law_674 ?_
  refine n_Vi (pc := 675) C (As := [.int (xs (i + 1))]) (rest := [.int _]) (b := hm 0) (ci := 6) (q0 := 0) (w' := wX cs hx (su σ 0 (upd (σ 0) 2 ((xs (i + 1))))) ++ wM cs hm (su τ 0 (upd (τ 0) 2 ((xs (i + 1)))))) (t_X6_seed l ad D cs hm τ (wX cs hx (su σ 0 (upd (σ 0) 2 ((xs (i + 1)))))) [] ((xs (i + 1)))) mv_X6_seed ml_RL_72 rfl ⟨(Nat.le_of_ble_eq_true rfl), (Nat.le_of_ble_eq_true rfl)⟩ ⟨rfl, rfl⟩ rfl rfl rfl (by rw [List.append_nil]) (by rw [List.append_nil]) rfl (Nat.le_of_ble_eq_true rfl) dL_law_675 (Nat.le_of_ble_eq_true rfl) (Nat.le_of_ble_eq_true rfl) ?_
  refine n_icmp_eq (pc := 678) C 1648 dL_law_678 (by decide) (fun _ => k _ _ ho.2) (fun hne => absurd ho.1 hne)
theorem dL_law_683 : decode cL_law 683 = .ok (.aload_n 1, 1) := by decide +kernel
theorem dL_law_684 : decode cL_law 684 = .ok (.invokevirtual 73, 3) := by decide +kernel
theorem dL_law_687 : decode cL_law 687 = .ok (.aload_n 2, 1) := by decide +kernel
theorem dL_law_688 : decode cL_law 688 = .ok (.invokevirtual 76, 3) := by decide +kernel
theorem dL_law_691 : decode cL_law 691 = .ok (.if_icmp .eq 957, 3) := by decide +kernel
set_option maxHeartbeats 4000000 in
set_option maxRecDepth 20000 in
theorem lo_day {p : Program} {l : Launch} {e : Env} {s : State} {m : MethodId} {args : Array Value} {below : List Frame} {meth : Method} {c : Code} {Q : State → Prop} {ad : Nat → Nat} {D : va_G} {cs : Nat → ClassId} {A : Nat → Prop} {hx hm : Nat → Nat} {b L : Nat} {xs : Nat → Int32} (C : Cx p s m args c cL_law 4 RL ad D (tysW cs) A) (X : Scr s A b L xs) (hL : L < 2 ^ 31) {σ τ : Nat → Nat → Int32} (h : Rel σ τ) {i : Nat} (hi : i + 4 < L) (k : ∀ σ2 τ2, Rel σ2 τ2 → VN p l e room_1 s m args below meth c Q D A 4 78 1876 (wX cs hx σ2 ++ wM cs hm τ2) 1648 [(3, .int (nI i)), (2, .ref (hm 0)), (1, .ref (hx 0)), (0, .ref b)] []) : VN p l e room_1 s m args below meth c Q D A 4 78 1876 (wX cs hx σ ++ wM cs hm τ) 683 [(3, .int (nI i)), (2, .ref (hm 0)), (1, .ref (hx 0)), (0, .ref b)] [] := by
  obtain ⟨n, rr⟩ := h.row
  have ho := o_day h rr
  refine n_aload_n (pc := 683) C 2 dL_law_683 rfl rfl ?_
  refine n_Vi (pc := 684) C (As := []) (rest := []) (b := hx 0) (ci := 5) (q0 := 0) (w' := wX cs hx (su σ 0 (dayD n (σ 0))) ++ wM cs hm τ) (t_X5_day l ad D cs hx σ [] (wM cs hm τ) n rr.h0 rr.hn rr.rg) mv_X5_day ml_RL_73 rfl ⟨(Nat.le_of_ble_eq_true rfl), (Nat.le_of_ble_eq_true rfl)⟩ ⟨rfl, rfl⟩ rfl rfl rfl rfl rfl rfl (Nat.le_of_ble_eq_true rfl) dL_law_684 (Nat.le_of_ble_eq_true rfl) (Nat.le_of_ble_eq_true rfl) ?_
  refine n_aload_n (pc := 687) C 1 dL_law_687 rfl rfl ?_
  refine n_Vi (pc := 688) C (As := []) (rest := [.int _]) (b := hm 0) (ci := 6) (q0 := 0) (w' := wX cs hx (su σ 0 (dayD n (σ 0))) ++ wM cs hm (su τ 0 (dayD n (τ 0)))) (t_X6_day l ad D cs hm τ (wX cs hx (su σ 0 (dayD n (σ 0)))) [] n rr.h0' rr.hn) mv_X6_day ml_RL_76 rfl ⟨(Nat.le_of_ble_eq_true rfl), (Nat.le_of_ble_eq_true rfl)⟩ ⟨rfl, rfl⟩ rfl rfl rfl (by rw [List.append_nil]) (by rw [List.append_nil]) rfl (Nat.le_of_ble_eq_true rfl) dL_law_688 (Nat.le_of_ble_eq_true rfl) (Nat.le_of_ble_eq_true rfl) ?_
  refine n_icmp_eq (pc := 691) C 1648 dL_law_691 (by decide) (fun _ => k _ _ ho.2) (fun hne => absurd ho.1 hne)
theorem dL_law_696 : decode cL_law 696 = .ok (.aload_n 1, 1) := by decide +kernel
theorem dL_law_697 : decode cL_law 697 = .ok (.aload_n 0, 1) := by decide +kernel
theorem dL_law_698 : decode cL_law 698 = .ok (.iload_n 3, 1) := by decide +kernel
theorem dL_law_699 : decode cL_law 699 = .ok (.iconst 1, 1) := by decide +kernel
theorem dL_law_700 : decode cL_law 700 = .ok (.iadd, 1) := by decide +kernel
theorem dL_law_701 : decode cL_law 701 = .ok (.iaload, 1) := by decide +kernel
theorem dL_law_702 : decode cL_law 702 = .ok (.aload_n 0, 1) := by decide +kernel
theorem dL_law_703 : decode cL_law 703 = .ok (.iload_n 3, 1) := by decide +kernel
theorem dL_law_704 : decode cL_law 704 = .ok (.iconst 2, 1) := by decide +kernel
theorem dL_law_705 : decode cL_law 705 = .ok (.iadd, 1) := by decide +kernel
theorem dL_law_706 : decode cL_law 706 = .ok (.iaload, 1) := by decide +kernel
theorem dL_law_707 : decode cL_law 707 = .ok (.invokevirtual 77, 3) := by decide +kernel
theorem dL_law_710 : decode cL_law 710 = .ok (.aload_n 2, 1) := by decide +kernel
theorem dL_law_711 : decode cL_law 711 = .ok (.aload_n 0, 1) := by decide +kernel
theorem dL_law_712 : decode cL_law 712 = .ok (.iload_n 3, 1) := by decide +kernel
theorem dL_law_713 : decode cL_law 713 = .ok (.iconst 1, 1) := by decide +kernel
theorem dL_law_714 : decode cL_law 714 = .ok (.iadd, 1) := by decide +kernel
theorem dL_law_715 : decode cL_law 715 = .ok (.iaload, 1) := by decide +kernel
theorem dL_law_716 : decode cL_law 716 = .ok (.aload_n 0, 1) := by decide +kernel
theorem dL_law_717 : decode cL_law 717 = .ok (.iload_n 3, 1) := by decide +kernel
theorem dL_law_718 : decode cL_law 718 = .ok (.iconst 2, 1) := by decide +kernel
theorem dL_law_719 : decode cL_law 719 = .ok (.iadd, 1) := by decide +kernel
theorem dL_law_720 : decode cL_law 720 = .ok (.iaload, 1) := by decide +kernel
theorem dL_law_721 : decode cL_law 721 = .ok (.invokevirtual 80, 3) := by decide +kernel
theorem dL_law_724 : decode cL_law 724 = .ok (.if_icmp .eq 924, 3) := by decide +kernel
set_option maxHeartbeats 4000000 in
set_option maxRecDepth 20000 in
theorem lo_lucky {p : Program} {l : Launch} {e : Env} {s : State} {m : MethodId} {args : Array Value} {below : List Frame} {meth : Method} {c : Code} {Q : State → Prop} {ad : Nat → Nat} {D : va_G} {cs : Nat → ClassId} {A : Nat → Prop} {hx hm : Nat → Nat} {b L : Nat} {xs : Nat → Int32} (C : Cx p s m args c cL_law 4 RL ad D (tysW cs) A) (X : Scr s A b L xs) (hL : L < 2 ^ 31) {σ τ : Nat → Nat → Int32} (h : Rel σ τ) {i : Nat} (hi : i + 4 < L) (k : ∀ σ2 τ2, Rel σ2 τ2 → VN p l e room_1 s m args below meth c Q D A 4 78 1876 (wX cs hx σ2 ++ wM cs hm τ2) 1648 [(3, .int (nI i)), (2, .ref (hm 0)), (1, .ref (hx 0)), (0, .ref b)] []) : VN p l e room_1 s m args below meth c Q D A 4 78 1876 (wX cs hx σ ++ wM cs hm τ) 696 [(3, .int (nI i)), (2, .ref (hm 0)), (1, .ref (hx 0)), (0, .ref b)] [] := by
  obtain ⟨n, rr⟩ := h.row
  have ho := o_lucky h rr ((xs (i + 1))) ((xs (i + 2)))
  refine n_aload_n (pc := 696) C 2 dL_law_696 rfl rfl ?_
  refine n_aload_n (pc := 697) C 3 dL_law_697 rfl rfl ?_
  refine n_iload_n (pc := 698) C 0 dL_law_698 rfl rfl ?_
  refine n_iconst (pc := 699) C (nI 1) dL_law_699 (by decide) ?_
  refine n_iadd (pc := 700) C dL_law_700 ?_
  refine n_sld (pc := 701) C X (i + 1) (nI_add i 1) (by omega) hL dL_law_701 ?_
  refine n_aload_n (pc := 702) C 3 dL_law_702 rfl rfl ?_
  refine n_iload_n (pc := 703) C 0 dL_law_703 rfl rfl ?_
  refine n_iconst (pc := 704) C (nI 2) dL_law_704 (by decide) ?_
  refine n_iadd (pc := 705) C dL_law_705 ?_
  refine n_sld (pc := 706) C X (i + 2) (nI_add i 2) (by omega) hL dL_law_706 ?_
  refine n_Vi (pc := 707) C (As := [.int (xs (i + 1)), .int (xs (i + 2))]) (rest := []) (b := hx 0) (ci := 5) (q0 := 0) (w' := wX cs hx (su σ 2 (gateF (oneB n ((xs (i + 1))) && inB ((xs (i + 2))) 1 30) (lkS n (σ 0) ((xs (i + 2))).toNatClampNeg) (σ 2))) ++ wM cs hm τ) (t_X5_lucky l ad D cs hx σ [] (wM cs hm τ) n ((xs (i + 1))) ((xs (i + 2))) rr.h0 rr.hn rr.rg) mv_X5_lucky ml_RL_77 rfl ⟨(Nat.le_of_ble_eq_true rfl), (Nat.le_of_ble_eq_true rfl)⟩ ⟨rfl, rfl⟩ rfl rfl rfl rfl rfl rfl (Nat.le_of_ble_eq_true rfl) dL_law_707 (Nat.le_of_ble_eq_true rfl) (Nat.le_of_ble_eq_true rfl) ?_
  refine n_aload_n (pc := 710) C 1 dL_law_710 rfl rfl ?_
  refine n_aload_n (pc := 711) C 3 dL_law_711 rfl rfl ?_
  refine n_iload_n (pc := 712) C 0 dL_law_712 rfl rfl ?_
  refine n_iconst (pc := 713) C (nI 1) dL_law_713 (by decide) ?_
  refine n_iadd (pc := 714) C dL_law_714 ?_
  refine n_sld (pc := 715) C X (i + 1) (nI_add i 1) (by omega) hL dL_law_715 ?_
  refine n_aload_n (pc := 716) C 3 dL_law_716 rfl rfl ?_
  refine n_iload_n (pc := 717) C 0 dL_law_717 rfl rfl ?_
  refine n_iconst (pc := 718) C (nI 2) dL_law_718 (by decide) ?_
  refine n_iadd (pc := 719) C dL_law_719 ?_
  refine n_sld (pc := 720) C X (i + 2) (nI_add i 2) (by omega) hL dL_law_720 ?_
  refine n_Vi (pc := 721) C (As := [.int (xs (i + 1)), .int (xs (i + 2))]) (rest := [.int _]) (b := hm 0) (ci := 6) (q0 := 0) (w' := wX cs hx (su σ 2 (gateF (oneB n ((xs (i + 1))) && inB ((xs (i + 2))) 1 30) (lkS n (σ 0) ((xs (i + 2))).toNatClampNeg) (σ 2))) ++ wM cs hm (su τ 2 (gateF (oneB n ((xs (i + 1))) && inB ((xs (i + 2))) 1 30) (τ 0) (τ 2)))) (t_X6_lucky l ad D cs hm τ (wX cs hx (su σ 2 (gateF (oneB n ((xs (i + 1))) && inB ((xs (i + 2))) 1 30) (lkS n (σ 0) ((xs (i + 2))).toNatClampNeg) (σ 2)))) [] n ((xs (i + 1))) ((xs (i + 2))) rr.h0' rr.hn) mv_X6_lucky ml_RL_80 rfl ⟨(Nat.le_of_ble_eq_true rfl), (Nat.le_of_ble_eq_true rfl)⟩ ⟨rfl, rfl⟩ rfl rfl rfl (by rw [List.append_nil]) (by rw [List.append_nil]) rfl (Nat.le_of_ble_eq_true rfl) dL_law_721 (Nat.le_of_ble_eq_true rfl) (Nat.le_of_ble_eq_true rfl) ?_
  refine n_icmp_eq (pc := 724) C 1648 dL_law_724 (by decide) (fun _ => k _ _ ho.2) (fun hne => absurd ho.1 hne)
theorem dL_law_729 : decode cL_law 729 = .ok (.aload_n 1, 1) := by decide +kernel
theorem dL_law_730 : decode cL_law 730 = .ok (.aload_n 0, 1) := by decide +kernel
theorem dL_law_731 : decode cL_law 731 = .ok (.iload_n 3, 1) := by decide +kernel
theorem dL_law_732 : decode cL_law 732 = .ok (.iconst 1, 1) := by decide +kernel
theorem dL_law_733 : decode cL_law 733 = .ok (.iadd, 1) := by decide +kernel
theorem dL_law_734 : decode cL_law 734 = .ok (.iaload, 1) := by decide +kernel
theorem dL_law_735 : decode cL_law 735 = .ok (.invokevirtual 81, 3) := by decide +kernel
theorem dL_law_738 : decode cL_law 738 = .ok (.aload_n 2, 1) := by decide +kernel
theorem dL_law_739 : decode cL_law 739 = .ok (.aload_n 0, 1) := by decide +kernel
theorem dL_law_740 : decode cL_law 740 = .ok (.iload_n 3, 1) := by decide +kernel
theorem dL_law_741 : decode cL_law 741 = .ok (.iconst 1, 1) := by decide +kernel
theorem dL_law_742 : decode cL_law 742 = .ok (.iadd, 1) := by decide +kernel
theorem dL_law_743 : decode cL_law 743 = .ok (.iaload, 1) := by decide +kernel
theorem dL_law_744 : decode cL_law 744 = .ok (.invokevirtual 84, 3) := by decide +kernel
theorem dL_law_747 : decode cL_law 747 = .ok (.if_icmp .eq 901, 3) := by decide +kernel
set_option maxHeartbeats 4000000 in
set_option maxRecDepth 20000 in
theorem lo_state {p : Program} {l : Launch} {e : Env} {s : State} {m : MethodId} {args : Array Value} {below : List Frame} {meth : Method} {c : Code} {Q : State → Prop} {ad : Nat → Nat} {D : va_G} {cs : Nat → ClassId} {A : Nat → Prop} {hx hm : Nat → Nat} {b L : Nat} {xs : Nat → Int32} (C : Cx p s m args c cL_law 4 RL ad D (tysW cs) A) (X : Scr s A b L xs) (hL : L < 2 ^ 31) {σ τ : Nat → Nat → Int32} (h : Rel σ τ) {i : Nat} (hi : i + 4 < L) (k : ∀ σ2 τ2, Rel σ2 τ2 → VN p l e room_1 s m args below meth c Q D A 4 78 1876 (wX cs hx σ2 ++ wM cs hm τ2) 1648 [(3, .int (nI i)), (2, .ref (hm 0)), (1, .ref (hx 0)), (0, .ref b)] []) : VN p l e room_1 s m args below meth c Q D A 4 78 1876 (wX cs hx σ ++ wM cs hm τ) 729 [(3, .int (nI i)), (2, .ref (hm 0)), (1, .ref (hx 0)), (0, .ref b)] [] := by
  obtain ⟨n, rr⟩ := h.row
  have ho := o_state h rr ((xs (i + 1)))
  refine n_aload_n (pc := 729) C 2 dL_law_729 rfl rfl ?_
  refine n_aload_n (pc := 730) C 3 dL_law_730 rfl rfl ?_
  refine n_iload_n (pc := 731) C 0 dL_law_731 rfl rfl ?_
  refine n_iconst (pc := 732) C (nI 1) dL_law_732 (by decide) ?_
  refine n_iadd (pc := 733) C dL_law_733 ?_
  refine n_sld (pc := 734) C X (i + 1) (nI_add i 1) (by omega) hL dL_law_734 ?_
  refine n_Vi (pc := 735) C (As := [.int (xs (i + 1))]) (rest := []) (b := hx 0) (ci := 5) (q0 := 0) (w' := wX cs hx σ ++ wM cs hm τ) (t_X5_state l ad D cs hx σ [] (wM cs hm τ) n ((xs (i + 1))) rr.h0 rr.hn rr.rg) mv_X5_state ml_RL_81 rfl ⟨(Nat.le_of_ble_eq_true rfl), (Nat.le_of_ble_eq_true rfl)⟩ ⟨rfl, rfl⟩ rfl rfl rfl rfl rfl rfl (Nat.le_of_ble_eq_true rfl) dL_law_735 (Nat.le_of_ble_eq_true rfl) (Nat.le_of_ble_eq_true rfl) ?_
  refine n_aload_n (pc := 738) C 1 dL_law_738 rfl rfl ?_
  refine n_aload_n (pc := 739) C 3 dL_law_739 rfl rfl ?_
  refine n_iload_n (pc := 740) C 0 dL_law_740 rfl rfl ?_
  refine n_iconst (pc := 741) C (nI 1) dL_law_741 (by decide) ?_
  refine n_iadd (pc := 742) C dL_law_742 ?_
  refine n_sld (pc := 743) C X (i + 1) (nI_add i 1) (by omega) hL dL_law_743 ?_
  refine n_Vi (pc := 744) C (As := [.int (xs (i + 1))]) (rest := [.int _]) (b := hm 0) (ci := 6) (q0 := 0) (w' := wX cs hx σ ++ wM cs hm τ) (t_X6_state l ad D cs hm τ (wX cs hx σ) [] n ((xs (i + 1))) rr.h0' rr.hn) mv_X6_state ml_RL_84 rfl ⟨(Nat.le_of_ble_eq_true rfl), (Nat.le_of_ble_eq_true rfl)⟩ ⟨rfl, rfl⟩ rfl rfl rfl (by rw [List.append_nil]) (by rw [List.append_nil]) rfl (Nat.le_of_ble_eq_true rfl) dL_law_744 (Nat.le_of_ble_eq_true rfl) (Nat.le_of_ble_eq_true rfl) ?_
  refine n_icmp_eq (pc := 747) C 1648 dL_law_747 (by decide) (fun _ => k _ _ ho.2) (fun hne => absurd ho.1 hne)
