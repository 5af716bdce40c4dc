theorem dL_law_752 : decode cL_law 752 = .ok (.aload_n 1, 1) := by decide +kernel
theorem dL_law_753 : decode cL_law 753 = .ok (.aload_n 0, 1) := by decide +kernel
theorem dL_law_754 : decode cL_law 754 = .ok (.iload_n 3, 1) := by decide +kernel
theorem dL_law_755 : decode cL_law 755 = .ok (.iconst 1, 1) := by decide +kernel
theorem dL_law_756 : decode cL_law 756 = .ok (.iadd, 1) := by decide +kernel
theorem dL_law_757 : decode cL_law 757 = .ok (.iaload, 1) := by decide +kernel
theorem dL_law_758 : decode cL_law 758 = .ok (.aload_n 0, 1) := by decide +kernel
theorem dL_law_759 : decode cL_law 759 = .ok (.iload_n 3, 1) := by decide +kernel
theorem dL_law_760 : decode cL_law 760 = .ok (.iconst 2, 1) := by decide +kernel
theorem dL_law_761 : decode cL_law 761 = .ok (.iadd, 1) := by decide +kernel
theorem dL_law_762 : decode cL_law 762 = .ok (.iaload, 1) := by decide +kernel
theorem dL_law_763 : decode cL_law 763 = .ok (.invokevirtual 85, 3) := by decide +kernel
theorem dL_law_766 : decode cL_law 766 = .ok (.aload_n 2, 1) := by decide +kernel
theorem dL_law_767 : decode cL_law 767 = .ok (.aload_n 0, 1) := by decide +kernel
theorem dL_law_768 : decode cL_law 768 = .ok (.iload_n 3, 1) := by decide +kernel
theorem dL_law_769 : decode cL_law 769 = .ok (.iconst 1, 1) := by decide +kernel
theorem dL_law_770 : decode cL_law 770 = .ok (.iadd, 1) := by decide +kernel
theorem dL_law_771 : decode cL_law 771 = .ok (.iaload, 1) := by decide +kernel
theorem dL_law_772 : decode cL_law 772 = .ok (.aload_n 0, 1) := by decide +kernel
theorem dL_law_773 : decode cL_law 773 = .ok (.iload_n 3, 1) := by decide +kernel
theorem dL_law_774 : decode cL_law 774 = .ok (.iconst 2, 1) := by decide +kernel
theorem dL_law_775 : decode cL_law 775 = .ok (.iadd, 1) := by decide +kernel
theorem dL_law_776 : decode cL_law 776 = .ok (.iaload, 1) := by decide +kernel
theorem dL_law_777 : decode cL_law 777 = .ok (.invokevirtual 88, 3) := by decide +kernel
theorem dL_law_780 : decode cL_law 780 = .ok (.if_icmp .eq 868, 3) := by decide +kernel
set_option maxHeartbeats 4000000 in
set_option maxRecDepth 20000 in
theorem lo_purse {p : Program} {l : Launch} {e : Env} {s : State} {m : MethodId} {args : Array Value} {below : List Frame} {meth : Method} {c : Code} {Q : State → Prop} {ad : Nat → Nat} {D : va_G} {cs : Nat → ClassId} {A : Nat → Prop} {hx hm : Nat → Nat} {b L : Nat} {xs : Nat → Int32} (C : Cx p s m args c cL_law 4 RL ad D (tysW cs) A) (X : Scr s A b L xs) (hL : L < 2 ^ 31) {σ τ : Nat → Nat → Int32} (h : Rel σ τ) {i : Nat} (hi : i + 4 < L) (k : ∀ σ2 τ2, Rel σ2 τ2 → VN p l e room_1 s m args below meth c Q D A 4 78 1876 (wX cs hx σ2 ++ wM cs hm τ2) 1648 [(3, .int (nI i)), (2, .ref (hm 0)), (1, .ref (hx 0)), (0, .ref b)] []) : VN p l e room_1 s m args below meth c Q D A 4 78 1876 (wX cs hx σ ++ wM cs hm τ) 752 [(3, .int (nI i)), (2, .ref (hm 0)), (1, .ref (hx 0)), (0, .ref b)] [] := by
  obtain ⟨n, rr⟩ := h.row
  have ho := o_purse h rr ((xs (i + 1))) ((xs (i + 2)))
  refine n_aload_n (pc := 752) C 2 dL_law_752 rfl rfl ?_
  refine n_aload_n (pc := 753) C 3 dL_law_753 rfl rfl ?_
  refine n_iload_n (pc := 754) C 0 dL_law_754 rfl rfl ?_
  refine n_iconst (pc := 755) C (nI 1) dL_law_755 (by decide) ?_
  refine n_iadd (pc := 756) C dL_law_756 ?_
  refine n_sld (pc := 757) C X (i + 1) (nI_add i 1) (by omega) hL dL_law_757 ?_
  refine n_aload_n (pc := 758) C 3 dL_law_758 rfl rfl ?_
  refine n_iload_n (pc := 759) C 0 dL_law_759 rfl rfl ?_
  refine n_iconst (pc := 760) C (nI 2) dL_law_760 (by decide) ?_
  refine n_iadd (pc := 761) C dL_law_761 ?_
  refine n_sld (pc := 762) C X (i + 2) (nI_add i 2) (by omega) hL dL_law_762 ?_
  refine n_Vi (pc := 763) C (As := [.int (xs (i + 1)), .int (xs (i + 2))]) (rest := []) (b := hx 0) (ci := 5) (q0 := 0) (w' := wX cs hx (su σ 2 (gateF (oneB n ((xs (i + 1))) && inB ((xs (i + 2))) 0 60) (daysF n (σ 0) ((xs (i + 2))).toNatClampNeg) (σ 2))) ++ wM cs hm τ) (t_X5_purse l ad D cs hx σ [] (wM cs hm τ) n ((xs (i + 1))) ((xs (i + 2))) rr.h0 rr.hn rr.rg) mv_X5_purse ml_RL_85 rfl ⟨(Nat.le_of_ble_eq_true rfl), (Nat.le_of_ble_eq_true rfl)⟩ ⟨rfl, rfl⟩ rfl rfl rfl rfl rfl rfl (Nat.le_of_ble_eq_true rfl) dL_law_763 (Nat.le_of_ble_eq_true rfl) (Nat.le_of_ble_eq_true rfl) ?_
  refine n_aload_n (pc := 766) C 1 dL_law_766 rfl rfl ?_
  refine n_aload_n (pc := 767) C 3 dL_law_767 rfl rfl ?_
  refine n_iload_n (pc := 768) C 0 dL_law_768 rfl rfl ?_
  refine n_iconst (pc := 769) C (nI 1) dL_law_769 (by decide) ?_
  refine n_iadd (pc := 770) C dL_law_770 ?_
  refine n_sld (pc := 771) C X (i + 1) (nI_add i 1) (by omega) hL dL_law_771 ?_
  refine n_aload_n (pc := 772) C 3 dL_law_772 rfl rfl ?_
  refine n_iload_n (pc := 773) C 0 dL_law_773 rfl rfl ?_
  refine n_iconst (pc := 774) C (nI 2) dL_law_774 (by decide) ?_
  refine n_iadd (pc := 775) C dL_law_775 ?_
  refine n_sld (pc := 776) C X (i + 2) (nI_add i 2) (by omega) hL dL_law_776 ?_
  refine n_Vi (pc := 777) C (As := [.int (xs (i + 1)), .int (xs (i + 2))]) (rest := [.int _]) (b := hm 0) (ci := 6) (q0 := 0) (w' := wX cs hx (su σ 2 (gateF (oneB n ((xs (i + 1))) && inB ((xs (i + 2))) 0 60) (daysF n (σ 0) ((xs (i + 2))).toNatClampNeg) (σ 2))) ++ wM cs hm (su τ 2 (gateF (oneB n ((xs (i + 1))) && inB ((xs (i + 2))) 0 60) (τ 0) (τ 2)))) (t_X6_purse l ad D cs hm τ (wX cs hx (su σ 2 (gateF (oneB n ((xs (i + 1))) && inB ((xs (i + 2))) 0 60) (daysF n (σ 0) ((xs (i + 2))).toNatClampNeg) (σ 2)))) [] n ((xs (i + 1))) ((xs (i + 2))) rr.h0' rr.hn) mv_X6_purse ml_RL_88 rfl ⟨(Nat.le_of_ble_eq_true rfl), (Nat.le_of_ble_eq_true rfl)⟩ ⟨rfl, rfl⟩ rfl rfl rfl (by rw [List.append_nil]) (by rw [List.append_nil]) rfl (Nat.le_of_ble_eq_true rfl) dL_law_777 (Nat.le_of_ble_eq_true rfl) (Nat.le_of_ble_eq_true rfl) ?_
  refine n_icmp_eq (pc := 780) C 1648 dL_law_780 (by decide) (fun _ => k _ _ ho.2) (fun hne => absurd ho.1 hne)
theorem dL_law_785 : decode cL_law 785 = .ok (.aload_n 1, 1) := by decide +kernel
theorem dL_law_786 : decode cL_law 786 = .ok (.aload_n 0, 1) := by decide +kernel
theorem dL_law_787 : decode cL_law 787 = .ok (.iload_n 3, 1) := by decide +kernel
theorem dL_law_788 : decode cL_law 788 = .ok (.iconst 1, 1) := by decide +kernel
theorem dL_law_789 : decode cL_law 789 = .ok (.iadd, 1) := by decide +kernel
theorem dL_law_790 : decode cL_law 790 = .ok (.iaload, 1) := by decide +kernel
theorem dL_law_791 : decode cL_law 791 = .ok (.invokevirtual 89, 3) := by decide +kernel
theorem dL_law_794 : decode cL_law 794 = .ok (.aload_n 2, 1) := by decide +kernel
theorem dL_law_795 : decode cL_law 795 = .ok (.aload_n 0, 1) := by decide +kernel
theorem dL_law_796 : decode cL_law 796 = .ok (.iload_n 3, 1) := by decide +kernel
theorem dL_law_797 : decode cL_law 797 = .ok (.iconst 1, 1) := by decide +kernel
theorem dL_law_798 : decode cL_law 798 = .ok (.iadd, 1) := by decide +kernel
theorem dL_law_799 : decode cL_law 799 = .ok (.iaload, 1) := by decide +kernel
theorem dL_law_800 : decode cL_law 800 = .ok (.invokevirtual 92, 3) := by decide +kernel
theorem dL_law_803 : decode cL_law 803 = .ok (.if_icmp .eq 845, 3) := by decide +kernel
set_option maxHeartbeats 4000000 in
set_option maxRecDepth 20000 in
theorem lo_steps {p : Program} {l : Launch} {e : Env} {s : State} {m : MethodId} {args : Array Value} {below : List Frame} {meth : Method} {c : Code} {Q : State → Prop} {ad : Nat → Nat} {D : va_G} {cs : Nat → ClassId} {A : Nat → Prop} {hx hm : Nat → Nat} {b L : Nat} {xs : Nat → Int32} (C : Cx p s m args c cL_law 4 RL ad D (tysW cs) A) (X : Scr s A b L xs) (hL : L < 2 ^ 31) {σ τ : Nat → Nat → Int32} (h : Rel σ τ) {i : Nat} (hi : i + 4 < L) (k : ∀ σ2 τ2, Rel σ2 τ2 → VN p l e room_1 s m args below meth c Q D A 4 78 1876 (wX cs hx σ2 ++ wM cs hm τ2) 1648 [(3, .int (nI i)), (2, .ref (hm 0)), (1, .ref (hx 0)), (0, .ref b)] []) : VN p l e room_1 s m args below meth c Q D A 4 78 1876 (wX cs hx σ ++ wM cs hm τ) 785 [(3, .int (nI i)), (2, .ref (hm 0)), (1, .ref (hx 0)), (0, .ref b)] [] := by
  obtain ⟨n, rr⟩ := h.row
  have ho := o_steps h rr ((xs (i + 1)))
  refine n_aload_n (pc := 785) C 2 dL_law_785 rfl rfl ?_
  refine n_aload_n (pc := 786) C 3 dL_law_786 rfl rfl ?_
  refine n_iload_n (pc := 787) C 0 dL_law_787 rfl rfl ?_
  refine n_iconst (pc := 788) C (nI 1) dL_law_788 (by decide) ?_
  refine n_iadd (pc := 789) C dL_law_789 ?_
  refine n_sld (pc := 790) C X (i + 1) (nI_add i 1) (by omega) hL dL_law_790 ?_
  refine n_Vi (pc := 791) C (As := [.int (xs (i + 1))]) (rest := []) (b := hx 0) (ci := 5) (q0 := 0) (w' := wX cs hx (su σ 2 (gateF (oneB n ((xs (i + 1)))) (daysF n (σ 0) (fnN (fun t_ => decide (daysF n (σ 0) t_ (8 + 5 * ((xs (i + 1))).toNatClampNeg + 3) = 0)) 0 61)) (σ 2))) ++ wM cs hm τ) (t_X5_steps l ad D cs hx σ [] (wM cs hm τ) n ((xs (i + 1))) rr.h0 rr.hn rr.rg) mv_X5_steps ml_RL_89 rfl ⟨(Nat.le_of_ble_eq_true rfl), (Nat.le_of_ble_eq_true rfl)⟩ ⟨rfl, rfl⟩ rfl rfl rfl rfl rfl rfl (Nat.le_of_ble_eq_true rfl) dL_law_791 (Nat.le_of_ble_eq_true rfl) (Nat.le_of_ble_eq_true rfl) ?_
  refine n_aload_n (pc := 794) C 1 dL_law_794 rfl rfl ?_
  refine n_aload_n (pc := 795) C 3 dL_law_795 rfl rfl ?_
  refine n_iload_n (pc := 796) C 0 dL_law_796 rfl rfl ?_
  refine n_iconst (pc := 797) C (nI 1) dL_law_797 (by decide) ?_
  refine n_iadd (pc := 798) C dL_law_798 ?_
  refine n_sld (pc := 799) C X (i + 1) (nI_add i 1) (by omega) hL dL_law_799 ?_
  refine n_Vi (pc := 800) C (As := [.int (xs (i + 1))]) (rest := [.int _]) (b := hm 0) (ci := 6) (q0 := 0) (w' := wX cs hx (su σ 2 (gateF (oneB n ((xs (i + 1)))) (daysF n (σ 0) (fnN (fun t_ => decide (daysF n (σ 0) t_ (8 + 5 * ((xs (i + 1))).toNatClampNeg + 3) = 0)) 0 61)) (σ 2))) ++ wM cs hm (su τ 2 (gateF (oneB n ((xs (i + 1)))) (τ 0) (τ 2)))) (t_X6_steps l ad D cs hm τ (wX cs hx (su σ 2 (gateF (oneB n ((xs (i + 1)))) (daysF n (σ 0) (fnN (fun t_ => decide (daysF n (σ 0) t_ (8 + 5 * ((xs (i + 1))).toNatClampNeg + 3) = 0)) 0 61)) (σ 2)))) [] n ((xs (i + 1))) rr.h0' rr.hn) mv_X6_steps ml_RL_92 rfl ⟨(Nat.le_of_ble_eq_true rfl), (Nat.le_of_ble_eq_true rfl)⟩ ⟨rfl, rfl⟩ rfl rfl rfl (by rw [List.append_nil]) (by rw [List.append_nil]) rfl (Nat.le_of_ble_eq_true rfl) dL_law_800 (Nat.le_of_ble_eq_true rfl) (Nat.le_of_ble_eq_true rfl) ?_
  refine n_icmp_eq (pc := 803) C 1648 dL_law_803 (by decide) (fun _ => k _ _ ho.2) (fun hne => absurd ho.1 hne)
theorem dL_law_808 : decode cL_law 808 = .ok (.aload_n 1, 1) := by decide +kernel
theorem dL_law_809 : decode cL_law 809 = .ok (.invokevirtual 93, 3) := by decide +kernel
theorem dL_law_812 : decode cL_law 812 = .ok (.aload_n 2, 1) := by decide +kernel
theorem dL_law_813 : decode cL_law 813 = .ok (.invokevirtual 96, 3) := by decide +kernel
theorem dL_law_816 : decode cL_law 816 = .ok (.if_icmp .eq 832, 3) := by decide +kernel
set_option maxHeartbeats 4000000 in
set_option maxRecDepth 20000 in
theorem lo_all {p : Program} {l : Launch} {e : Env} {s : State} {m : MethodId} {args : Array Value} {below : List Frame} {meth : Method} {c : Code} {Q : State → Prop} {ad : Nat → Nat} {D : va_G} {cs : Nat → ClassId} {A : Nat → Prop} {hx hm : Nat → Nat} {b L : Nat} {xs : Nat → Int32} (C : Cx p s m args c cL_law 4 RL ad D (tysW cs) A) (X : Scr s A b L xs) (hL : L < 2 ^ 31) {σ τ : Nat → Nat → Int32} (h : Rel σ τ) {i : Nat} (hi : i + 4 < L) (k : ∀ σ2 τ2, Rel σ2 τ2 → VN p l e room_1 s m args below meth c Q D A 4 78 1876 (wX cs hx σ2 ++ wM cs hm τ2) 1648 [(3, .int (nI i)), (2, .ref (hm 0)), (1, .ref (hx 0)), (0, .ref b)] []) : VN p l e room_1 s m args below meth c Q D A 4 78 1876 (wX cs hx σ ++ wM cs hm τ) 808 [(3, .int (nI i)), (2, .ref (hm 0)), (1, .ref (hx 0)), (0, .ref b)] [] := by
  obtain ⟨n, rr⟩ := h.row
  have ho := o_all h rr
  refine n_aload_n (pc := 808) C 2 dL_law_808 rfl rfl ?_
  refine n_Vi (pc := 809) C (As := []) (rest := []) (b := hx 0) (ci := 5) (q0 := 0) (w' := wX cs hx (su σ 2 (daysF n (σ 0) (fnN (fun t_ => decide (onN (daysF n (σ 0) t_) n = 2 ^ n - 1)) 0 61))) ++ wM cs hm τ) (t_X5_all l ad D cs hx σ [] (wM cs hm τ) n rr.h0 rr.hn rr.rg) mv_X5_all ml_RL_93 rfl ⟨(Nat.le_of_ble_eq_true rfl), (Nat.le_of_ble_eq_true rfl)⟩ ⟨rfl, rfl⟩ rfl rfl rfl rfl rfl rfl (Nat.le_of_ble_eq_true rfl) dL_law_809 (Nat.le_of_ble_eq_true rfl) (Nat.le_of_ble_eq_true rfl) ?_
  refine n_aload_n (pc := 812) C 1 dL_law_812 rfl rfl ?_
  refine n_Vi (pc := 813) C (As := []) (rest := [.int _]) (b := hm 0) (ci := 6) (q0 := 0) (w' := wX cs hx (su σ 2 (daysF n (σ 0) (fnN (fun t_ => decide (onN (daysF n (σ 0) t_) n = 2 ^ n - 1)) 0 61))) ++ wM cs hm (su τ 2 (τ 0))) (t_X6_all l ad D cs hm τ (wX cs hx (su σ 2 (daysF n (σ 0) (fnN (fun t_ => decide (onN (daysF n (σ 0) t_) n = 2 ^ n - 1)) 0 61)))) [] n rr.h0' rr.hn) mv_X6_all ml_RL_96 rfl ⟨(Nat.le_of_ble_eq_true rfl), (Nat.le_of_ble_eq_true rfl)⟩ ⟨rfl, rfl⟩ rfl rfl rfl (by rw [List.append_nil]) (by rw [List.append_nil]) rfl (Nat.le_of_ble_eq_true rfl) dL_law_813 (Nat.le_of_ble_eq_true rfl) (Nat.le_of_ble_eq_true rfl) ?_
  refine n_icmp_eq (pc := 816) C 1648 dL_law_816 (by decide) (fun _ => k _ _ ho.2) (fun hne => absurd ho.1 hne)
theorem dL_law_821 : decode cL_law 821 = .ok (.aload_n 1, 1) := by decide +kernel
theorem dL_law_822 : decode cL_law 822 = .ok (.aload_n 0, 1) := by decide +kernel
theorem dL_law_823 : decode cL_law 823 = .ok (.iload_n 3, 1) := by decide +kernel
theorem dL_law_824 : decode cL_law 824 = .ok (.iconst 1, 1) := by decide +kernel
theorem dL_law_825 : decode cL_law 825 = .ok (.iadd, 1) := by decide +kernel
theorem dL_law_826 : decode cL_law 826 = .ok (.iaload, 1) := by decide +kernel
theorem dL_law_827 : decode cL_law 827 = .ok (.invokevirtual 97, 3) := by decide +kernel
theorem dL_law_830 : decode cL_law 830 = .ok (.aload_n 2, 1) := by decide +kernel
theorem dL_law_831 : decode cL_law 831 = .ok (.aload_n 0, 1) := by decide +kernel
theorem dL_law_832 : decode cL_law 832 = .ok (.iload_n 3, 1) := by decide +kernel
theorem dL_law_833 : decode cL_law 833 = .ok (.iconst 1, 1) := by decide +kernel
theorem dL_law_834 : decode cL_law 834 = .ok (.iadd, 1) := by decide +kernel
theorem dL_law_835 : decode cL_law 835 = .ok (.iaload, 1) := by decide +kernel
theorem dL_law_836 : decode cL_law 836 = .ok (.invokevirtual 100, 3) := by decide +kernel
theorem dL_law_839 : decode cL_law 839 = .ok (.if_icmp .eq 809, 3) := by decide +kernel
set_option maxHeartbeats 4000000 in
set_option maxRecDepth 20000 in
theorem lo_poor {p : Program} {l : Launch} {e : Env} {s : State} {m : MethodId} {args : Array Value} {below : List Frame} {meth : Method} {c : Code} {Q : State → Prop} {ad : Nat → Nat} {D : va_G} {cs : Nat → ClassId} {A : Nat → Prop} {hx hm : Nat → Nat} {b L : Nat} {xs : Nat → Int32} (C : Cx p s m args c cL_law 4 RL ad D (tysW cs) A) (X : Scr s A b L xs) (hL : L < 2 ^ 31) {σ τ : Nat → Nat → Int32} (h : Rel σ τ) {i : Nat} (hi : i + 4 < L) (k : ∀ σ2 τ2, Rel σ2 τ2 → VN p l e room_1 s m args below meth c Q D A 4 78 1876 (wX cs hx σ2 ++ wM cs hm τ2) 1648 [(3, .int (nI i)), (2, .ref (hm 0)), (1, .ref (hx 0)), (0, .ref b)] []) : VN p l e room_1 s m args below meth c Q D A 4 78 1876 (wX cs hx σ ++ wM cs hm τ) 821 [(3, .int (nI i)), (2, .ref (hm 0)), (1, .ref (hx 0)), (0, .ref b)] [] := by
  obtain ⟨n, rr⟩ := h.row
  have ho := o_poor h rr ((xs (i + 1)))
  refine n_aload_n (pc := 821) C 2 dL_law_821 rfl rfl ?_
  refine n_aload_n (pc := 822) C 3 dL_law_822 rfl rfl ?_
  refine n_iload_n (pc := 823) C 0 dL_law_823 rfl rfl ?_
  refine n_iconst (pc := 824) C (nI 1) dL_law_824 (by decide) ?_
  refine n_iadd (pc := 825) C dL_law_825 ?_
  refine n_sld (pc := 826) C X (i + 1) (nI_add i 1) (by omega) hL dL_law_826 ?_
  refine n_Vi (pc := 827) C (As := [.int (xs (i + 1))]) (rest := []) (b := hx 0) (ci := 5) (q0 := 0) (w' := wX cs hx (su σ 2 (gateF (oneB n ((xs (i + 1)))) (daysF n (σ 0) (fnN (fun t_ => decide (daysF n (σ 0) t_ (8 + 5 * ((xs (i + 1))).toNatClampNeg + 4) = 0)) 0 61)) (σ 2))) ++ wM cs hm τ) (t_X5_poor l ad D cs hx σ [] (wM cs hm τ) n ((xs (i + 1))) rr.h0 rr.hn rr.rg) mv_X5_poor ml_RL_97 rfl ⟨(Nat.le_of_ble_eq_true rfl), (Nat.le_of_ble_eq_true rfl)⟩ ⟨rfl, rfl⟩ rfl rfl rfl rfl rfl rfl (Nat.le_of_ble_eq_true rfl) dL_law_827 (Nat.le_of_ble_eq_true rfl) (Nat.le_of_ble_eq_true rfl) ?_
  refine n_aload_n (pc := 830) C 1 dL_law_830 rfl rfl ?_
  refine n_aload_n (pc := 831) C 3 dL_law_831 rfl rfl ?_
  refine n_iload_n (pc := 832) C 0 dL_law_832 rfl rfl ?_
  refine n_iconst (pc := 833) C (nI 1) dL_law_833 (by decide) ?_
  refine n_iadd (pc := 834) C dL_law_834 ?_
  refine n_sld (pc := 835) C X (i + 1) (nI_add i 1) (by omega) hL dL_law_835 ?_
  refine n_Vi (pc := 836) C (As := [.int (xs (i + 1))]) (rest := [.int _]) (b := hm 0) (ci := 6) (q0 := 0) (w' := wX cs hx (su σ 2 (gateF (oneB n ((xs (i + 1)))) (daysF n (σ 0) (fnN (fun t_ => decide (daysF n (σ 0) t_ (8 + 5 * ((xs (i + 1))).toNatClampNeg + 4) = 0)) 0 61)) (σ 2))) ++ wM cs hm (su τ 2 (gateF (oneB n ((xs (i + 1)))) (τ 0) (τ 2)))) (t_X6_poor l ad D cs hm τ (wX cs hx (su σ 2 (gateF (oneB n ((xs (i + 1)))) (daysF n (σ 0) (fnN (fun t_ => decide (daysF n (σ 0) t_ (8 + 5 * ((xs (i + 1))).toNatClampNeg + 4) = 0)) 0 61)) (σ 2)))) [] n ((xs (i + 1))) rr.h0' rr.hn) mv_X6_poor ml_RL_100 rfl ⟨(Nat.le_of_ble_eq_true rfl), (Nat.le_of_ble_eq_true rfl)⟩ ⟨rfl, rfl⟩ rfl rfl rfl (by rw [List.append_nil]) (by rw [List.append_nil]) rfl (Nat.le_of_ble_eq_true rfl) dL_law_836 (Nat.le_of_ble_eq_true rfl) (Nat.le_of_ble_eq_true rfl) ?_
  refine n_icmp_eq (pc := 839) C 1648 dL_law_839 (by decide) (fun _ => k _ _ ho.2) (fun hne => absurd ho.1 hne)
theorem dL_law_844 : decode cL_law 844 = .ok (.aload_n 1, 1) := by decide +kernel
theorem dL_law_845 : decode cL_law 845 = .ok (.aload_n 0, 1) := by decide +kernel
theorem dL_law_846 : decode cL_law 846 = .ok (.iload_n 3, 1) := by decide +kernel
theorem dL_law_847 : decode cL_law 847 = .ok (.iconst 1, 1) := by decide +kernel
theorem dL_law_848 : decode cL_law 848 = .ok (.iadd, 1) := by decide +kernel
theorem dL_law_849 : decode cL_law 849 = .ok (.iaload, 1) := by decide +kernel
theorem dL_law_850 : decode cL_law 850 = .ok (.aload_n 0, 1) := by decide +kernel
theorem dL_law_851 : decode cL_law 851 = .ok (.iload_n 3, 1) := by decide +kernel
theorem dL_law_852 : decode cL_law 852 = .ok (.iconst 2, 1) := by decide +kernel
theorem dL_law_853 : decode cL_law 853 = .ok (.iadd, 1) := by decide +kernel
theorem dL_law_854 : decode cL_law 854 = .ok (.iaload, 1) := by decide +kernel
theorem dL_law_855 : decode cL_law 855 = .ok (.invokevirtual 101, 3) := by decide +kernel
theorem dL_law_858 : decode cL_law 858 = .ok (.aload_n 2, 1) := by decide +kernel
theorem dL_law_859 : decode cL_law 859 = .ok (.aload_n 0, 1) := by decide +kernel
theorem dL_law_860 : decode cL_law 860 = .ok (.iload_n 3, 1) := by decide +kernel
theorem dL_law_861 : decode cL_law 861 = .ok (.iconst 1, 1) := by decide +kernel
theorem dL_law_862 : decode cL_law 862 = .ok (.iadd, 1) := by decide +kernel
theorem dL_law_863 : decode cL_law 863 = .ok (.iaload, 1) := by decide +kernel
theorem dL_law_864 : decode cL_law 864 = .ok (.aload_n 0, 1) := by decide +kernel
theorem dL_law_865 : decode cL_law 865 = .ok (.iload_n 3, 1) := by decide +kernel
theorem dL_law_866 : decode cL_law 866 = .ok (.iconst 2, 1) := by decide +kernel
theorem dL_law_867 : decode cL_law 867 = .ok (.iadd, 1) := by decide +kernel
theorem dL_law_868 : decode cL_law 868 = .ok (.iaload, 1) := by decide +kernel
theorem dL_law_869 : decode cL_law 869 = .ok (.invokevirtual 104, 3) := by decide +kernel
theorem dL_law_872 : decode cL_law 872 = .ok (.if_icmp .eq 776, 3) := by decide +kernel
set_option maxHeartbeats 4000000 in
set_option maxRecDepth 20000 in
theorem lo_webFor {p : Program} {l : Launch} {e : Env} {s : State} {m : MethodId} {args : Array Value} {below : List Frame} {meth : Method} {c : Code} {Q : State → Prop} {ad : Nat → Nat} {D : va_G} {cs : Nat → ClassId} {A : Nat → Prop} {hx hm : Nat → Nat} {b L : Nat} {xs : Nat → Int32} (C : Cx p s m args c cL_law 4 RL ad D (tysW cs) A) (X : Scr s A b L xs) (hL : L < 2 ^ 31) {σ τ : Nat → Nat → Int32} (h : Rel σ τ) {i : Nat} (hi : i + 4 < L) (k : ∀ σ2 τ2, Rel σ2 τ2 → VN p l e room_1 s m args below meth c Q D A 4 78 1876 (wX cs hx σ2 ++ wM cs hm τ2) 1648 [(3, .int (nI i)), (2, .ref (hm 0)), (1, .ref (hx 0)), (0, .ref b)] []) : VN p l e room_1 s m args below meth c Q D A 4 78 1876 (wX cs hx σ ++ wM cs hm τ) 844 [(3, .int (nI i)), (2, .ref (hm 0)), (1, .ref (hx 0)), (0, .ref b)] [] := by
  obtain ⟨n, rr⟩ := h.row
  have ho := o_webFor h rr ((xs (i + 1))) ((xs (i + 2)))
  refine n_aload_n (pc := 844) C 2 dL_law_844 rfl rfl ?_
  refine n_aload_n (pc := 845) C 3 dL_law_845 rfl rfl ?_
  refine n_iload_n (pc := 846) C 0 dL_law_846 rfl rfl ?_
  refine n_iconst (pc := 847) C (nI 1) dL_law_847 (by decide) ?_
  refine n_iadd (pc := 848) C dL_law_848 ?_
  refine n_sld (pc := 849) C X (i + 1) (nI_add i 1) (by omega) hL dL_law_849 ?_
  refine n_aload_n (pc := 850) C 3 dL_law_850 rfl rfl ?_
  refine n_iload_n (pc := 851) C 0 dL_law_851 rfl rfl ?_
  refine n_iconst (pc := 852) C (nI 2) dL_law_852 (by decide) ?_
  refine n_iadd (pc := 853) C dL_law_853 ?_
  refine n_sld (pc := 854) C X (i + 2) (nI_add i 2) (by omega) hL dL_law_854 ?_
  refine n_Vi (pc := 855) C (As := [.int (xs (i + 1)), .int (xs (i + 2))]) (rest := []) (b := hx 0) (ci := 5) (q0 := 0) (w' := wX cs hx (su σ 2 (gateF (oneB n ((xs (i + 1))) && inB ((xs (i + 2))) 1 20) (itT (fun v_ => daysF n (upd (σ 0) (8 + 5 * ((xs (i + 1))).toNatClampNeg + 3) (nI v_)) ((xs (i + 2))).toNatClampNeg) (σ 2) (99 + 1)) (σ 2))) ++ wM cs hm τ) (t_X5_webFor l ad D cs hx σ [] (wM cs hm τ) n ((xs (i + 1))) ((xs (i + 2))) rr.h0 rr.hn rr.rg) mv_X5_webFor ml_RL_101 rfl ⟨(Nat.le_of_ble_eq_true rfl), (Nat.le_of_ble_eq_true rfl)⟩ ⟨rfl, rfl⟩ rfl rfl rfl rfl rfl rfl (Nat.le_of_ble_eq_true rfl) dL_law_855 (Nat.le_of_ble_eq_true rfl) (Nat.le_of_ble_eq_true rfl) ?_
  refine n_aload_n (pc := 858) C 1 dL_law_858 rfl rfl ?_
  refine n_aload_n (pc := 859) C 3 dL_law_859 rfl rfl ?_
  refine n_iload_n (pc := 860) C 0 dL_law_860 rfl rfl ?_
  refine n_iconst (pc := 861) C (nI 1) dL_law_861 (by decide) ?_
  refine n_iadd (pc := 862) C dL_law_862 ?_
  refine n_sld (pc := 863) C X (i + 1) (nI_add i 1) (by omega) hL dL_law_863 ?_
  refine n_aload_n (pc := 864) C 3 dL_law_864 rfl rfl ?_
  refine n_iload_n (pc := 865) C 0 dL_law_865 rfl rfl ?_
  refine n_iconst (pc := 866) C (nI 2) dL_law_866 (by decide) ?_
  refine n_iadd (pc := 867) C dL_law_867 ?_
  refine n_sld (pc := 868) C X (i + 2) (nI_add i 2) (by omega) hL dL_law_868 ?_
  refine n_Vi (pc := 869) C (As := [.int (xs (i + 1)), .int (xs (i + 2))]) (rest := [.int _]) (b := hm 0) (ci := 6) (q0 := 0) (w' := wX cs hx (su σ 2 (gateF (oneB n ((xs (i + 1))) && inB ((xs (i + 2))) 1 20) (itT (fun v_ => daysF n (upd (σ 0) (8 + 5 * ((xs (i + 1))).toNatClampNeg + 3) (nI v_)) ((xs (i + 2))).toNatClampNeg) (σ 2) (99 + 1)) (σ 2))) ++ wM cs hm (su τ 2 (gateF (oneB n ((xs (i + 1))) && inB ((xs (i + 2))) 1 20) (rbA (τ 0) (τ 2) (8 + 5 * ((xs (i + 1))).toNatClampNeg + 3) (99 + 1)) (τ 2)))) (t_X6_webFor l ad D cs hm τ (wX cs hx (su σ 2 (gateF (oneB n ((xs (i + 1))) && inB ((xs (i + 2))) 1 20) (itT (fun v_ => daysF n (upd (σ 0) (8 + 5 * ((xs (i + 1))).toNatClampNeg + 3) (nI v_)) ((xs (i + 2))).toNatClampNeg) (σ 2) (99 + 1)) (σ 2)))) [] n ((xs (i + 1))) ((xs (i + 2))) rr.h0' rr.hn) mv_X6_webFor ml_RL_104 rfl ⟨(Nat.le_of_ble_eq_true rfl), (Nat.le_of_ble_eq_true rfl)⟩ ⟨rfl, rfl⟩ rfl rfl rfl (by rw [List.append_nil]) (by rw [List.append_nil]) rfl (Nat.le_of_ble_eq_true rfl) dL_law_869 (Nat.le_of_ble_eq_true rfl) (Nat.le_of_ble_eq_true rfl) ?_
  refine n_icmp_eq (pc := 872) C 1648 dL_law_872 (by decide) (fun _ => k _ _ ho.2) (fun hne => absurd ho.1 hne)
theorem dL_law_877 : decode cL_law 877 = .ok (.aload_n 1, 1) := by decide +kernel
theorem dL_law_878 : decode cL_law 878 = .ok (.aload_n 0, 1) := by decide +kernel
theorem dL_law_879 : decode cL_law 879 = .ok (.iload_n 3, 1) := by decide +kernel
theorem dL_law_880 : decode cL_law 880 = .ok (.iconst 1, 1) := by decide +kernel
theorem dL_law_881 : decode cL_law 881 = .ok (.iadd, 1) := by decide +kernel
theorem dL_law_882 : decode cL_law 882 = .ok (.iaload, 1) := by decide +kernel
theorem dL_law_883 : decode cL_law 883 = .ok (.aload_n 0, 1) := by decide +kernel
theorem dL_law_884 : decode cL_law 884 = .ok (.iload_n 3, 1) := by decide +kernel
theorem dL_law_885 : decode cL_law 885 = .ok (.iconst 2, 1) := by decide +kernel
theorem dL_law_886 : decode cL_law 886 = .ok (.iadd, 1) := by decide +kernel
theorem dL_law_887 : decode cL_law 887 = .ok (.iaload, 1) := by decide +kernel
theorem dL_law_888 : decode cL_law 888 = .ok (.invokevirtual 105, 3) := by decide +kernel
theorem dL_law_891 : decode cL_law 891 = .ok (.aload_n 2, 1) := by decide +kernel
theorem dL_law_892 : decode cL_law 892 = .ok (.aload_n 0, 1) := by decide +kernel
theorem dL_law_893 : decode cL_law 893 = .ok (.iload_n 3, 1) := by decide +kernel
theorem dL_law_894 : decode cL_law 894 = .ok (.iconst 1, 1) := by decide +kernel
theorem dL_law_895 : decode cL_law 895 = .ok (.iadd, 1) := by decide +kernel
theorem dL_law_896 : decode cL_law 896 = .ok (.iaload, 1) := by decide +kernel
theorem dL_law_897 : decode cL_law 897 = .ok (.aload_n 0, 1) := by decide +kernel
theorem dL_law_898 : decode cL_law 898 = .ok (.iload_n 3, 1) := by decide +kernel
theorem dL_law_899 : decode cL_law 899 = .ok (.iconst 2, 1) := by decide +kernel
theorem dL_law_900 : decode cL_law 900 = .ok (.iadd, 1) := by decide +kernel
theorem dL_law_901 : decode cL_law 901 = .ok (.iaload, 1) := by decide +kernel
theorem dL_law_902 : decode cL_law 902 = .ok (.invokevirtual 108, 3) := by decide +kernel
theorem dL_law_905 : decode cL_law 905 = .ok (.if_icmp .eq 743, 3) := by decide +kernel
set_option maxHeartbeats 4000000 in
set_option maxRecDepth 20000 in
theorem lo_kindFor {p : Program} {l : Launch} {e : Env} {s : State} {m : MethodId} {args : Array Value} {below : List Frame} {meth : Method} {c : Code} {Q : State → Prop} {ad : Nat → Nat} {D : va_G} {cs : Nat → ClassId} {A : Nat → Prop} {hx hm : Nat → Nat} {b L : Nat} {xs : Nat → Int32} (C : Cx p s m args c cL_law 4 RL ad D (tysW cs) A) (X : Scr s A b L xs) (hL : L < 2 ^ 31) {σ τ : Nat → Nat → Int32} (h : Rel σ τ) {i : Nat} (hi : i + 4 < L) (k : ∀ σ2 τ2, Rel σ2 τ2 → VN p l e room_1 s m args below meth c Q D A 4 78 1876 (wX cs hx σ2 ++ wM cs hm τ2) 1648 [(3, .int (nI i)), (2, .ref (hm 0)), (1, .ref (hx 0)), (0, .ref b)] []) : VN p l e room_1 s m args below meth c Q D A 4 78 1876 (wX cs hx σ ++ wM cs hm τ) 877 [(3, .int (nI i)), (2, .ref (hm 0)), (1, .ref (hx 0)), (0, .ref b)] [] := by
  obtain ⟨n, rr⟩ := h.row
  have ho := o_kindFor h rr ((xs (i + 1))) ((xs (i + 2)))
  refine n_aload_n (pc := 877) C 2 dL_law_877 rfl rfl ?_
  refine n_aload_n (pc := 878) C 3 dL_law_878 rfl rfl ?_
  refine n_iload_n (pc := 879) C 0 dL_law_879 rfl rfl ?_
  refine n_iconst (pc := 880) C (nI 1) dL_law_880 (by decide) ?_
  refine n_iadd (pc := 881) C dL_law_881 ?_
  refine n_sld (pc := 882) C X (i + 1) (nI_add i 1) (by omega) hL dL_law_882 ?_
  refine n_aload_n (pc := 883) C 3 dL_law_883 rfl rfl ?_
  refine n_iload_n (pc := 884) C 0 dL_law_884 rfl rfl ?_
  refine n_iconst (pc := 885) C (nI 2) dL_law_885 (by decide) ?_
  refine n_iadd (pc := 886) C dL_law_886 ?_
  refine n_sld (pc := 887) C X (i + 2) (nI_add i 2) (by omega) hL dL_law_887 ?_
  refine n_Vi (pc := 888) C (As := [.int (xs (i + 1)), .int (xs (i + 2))]) (rest := []) (b := hx 0) (ci := 5) (q0 := 0) (w' := wX cs hx (su σ 2 (gateF (oneB n ((xs (i + 1))) && inB ((xs (i + 2))) 1 20) (itT (fun v_ => daysF n (upd (σ 0) (8 + 5 * ((xs (i + 1))).toNatClampNeg) (nI v_)) ((xs (i + 2))).toNatClampNeg) (σ 2) (5 + 1)) (σ 2))) ++ wM cs hm τ) (t_X5_kindFor l ad D cs hx σ [] (wM cs hm τ) n ((xs (i + 1))) ((xs (i + 2))) rr.h0 rr.hn rr.rg) mv_X5_kindFor ml_RL_105 rfl ⟨(Nat.le_of_ble_eq_true rfl), (Nat.le_of_ble_eq_true rfl)⟩ ⟨rfl, rfl⟩ rfl rfl rfl rfl rfl rfl (Nat.le_of_ble_eq_true rfl) dL_law_888 (Nat.le_of_ble_eq_true rfl) (Nat.le_of_ble_eq_true rfl) ?_
  refine n_aload_n (pc := 891) C 1 dL_law_891 rfl rfl ?_
  refine n_aload_n (pc := 892) C 3 dL_law_892 rfl rfl ?_
  refine n_iload_n (pc := 893) C 0 dL_law_893 rfl rfl ?_
  refine n_iconst (pc := 894) C (nI 1) dL_law_894 (by decide) ?_
  refine n_iadd (pc := 895) C dL_law_895 ?_
  refine n_sld (pc := 896) C X (i + 1) (nI_add i 1) (by omega) hL dL_law_896 ?_
  refine n_aload_n (pc := 897) C 3 dL_law_897 rfl rfl ?_
  refine n_iload_n (pc := 898) C 0 dL_law_898 rfl rfl ?_
  refine n_iconst (pc := 899) C (nI 2) dL_law_899 (by decide) ?_
  refine n_iadd (pc := 900) C dL_law_900 ?_
  refine n_sld (pc := 901) C X (i + 2) (nI_add i 2) (by omega) hL dL_law_901 ?_
  refine n_Vi (pc := 902) C (As := [.int (xs (i + 1)), .int (xs (i + 2))]) (rest := [.int _]) (b := hm 0) (ci := 6) (q0 := 0) (w' := wX cs hx (su σ 2 (gateF (oneB n ((xs (i + 1))) && inB ((xs (i + 2))) 1 20) (itT (fun v_ => daysF n (upd (σ 0) (8 + 5 * ((xs (i + 1))).toNatClampNeg) (nI v_)) ((xs (i + 2))).toNatClampNeg) (σ 2) (5 + 1)) (σ 2))) ++ wM cs hm (su τ 2 (gateF (oneB n ((xs (i + 1))) && inB ((xs (i + 2))) 1 20) (rbA (τ 0) (τ 2) (8 + 5 * ((xs (i + 1))).toNatClampNeg) (5 + 1)) (τ 2)))) (t_X6_kindFor l ad D cs hm τ (wX cs hx (su σ 2 (gateF (oneB n ((xs (i + 1))) && inB ((xs (i + 2))) 1 20) (itT (fun v_ => daysF n (upd (σ 0) (8 + 5 * ((xs (i + 1))).toNatClampNeg) (nI v_)) ((xs (i + 2))).toNatClampNeg) (σ 2) (5 + 1)) (σ 2)))) [] n ((xs (i + 1))) ((xs (i + 2))) rr.h0' rr.hn) mv_X6_kindFor ml_RL_108 rfl ⟨(Nat.le_of_ble_eq_true rfl), (Nat.le_of_ble_eq_true rfl)⟩ ⟨rfl, rfl⟩ rfl rfl rfl (by rw [List.append_nil]) (by rw [List.append_nil]) rfl (Nat.le_of_ble_eq_true rfl) dL_law_902 (Nat.le_of_ble_eq_true rfl) (Nat.le_of_ble_eq_true rfl) ?_
  refine n_icmp_eq (pc := 905) C 1648 dL_law_905 (by decide) (fun _ => k _ _ ho.2) (fun hne => absurd ho.1 hne)
theorem dL_law_910 : decode cL_law 910 = .ok (.aload_n 1, 1) := by decide +kernel
theorem dL_law_911 : decode cL_law 911 = .ok (.aload_n 0, 1) := by decide +kernel
theorem dL_law_912 : decode cL_law 912 = .ok (.iload_n 3, 1) := by decide +kernel
theorem dL_law_913 : decode cL_law 913 = .ok (.iconst 1, 1) := by decide +kernel
theorem dL_law_914 : decode cL_law 914 = .ok (.iadd, 1) := by decide +kernel
theorem dL_law_915 : decode cL_law 915 = .ok (.iaload, 1) := by decide +kernel
theorem dL_law_916 : decode cL_law 916 = .ok (.aload_n 0, 1) := by decide +kernel
theorem dL_law_917 : decode cL_law 917 = .ok (.iload_n 3, 1) := by decide +kernel
theorem dL_law_918 : decode cL_law 918 = .ok (.iconst 2, 1) := by decide +kernel
theorem dL_law_919 : decode cL_law 919 = .ok (.iadd, 1) := by decide +kernel
theorem dL_law_920 : decode cL_law 920 = .ok (.iaload, 1) := by decide +kernel
theorem dL_law_921 : decode cL_law 921 = .ok (.aload_n 0, 1) := by decide +kernel
theorem dL_law_922 : decode cL_law 922 = .ok (.iload_n 3, 1) := by decide +kernel
theorem dL_law_923 : decode cL_law 923 = .ok (.iconst 3, 1) := by decide +kernel
theorem dL_law_924 : decode cL_law 924 = .ok (.iadd, 1) := by decide +kernel
theorem dL_law_925 : decode cL_law 925 = .ok (.iaload, 1) := by decide +kernel
theorem dL_law_926 : decode cL_law 926 = .ok (.invokevirtual 109, 3) := by decide +kernel
theorem dL_law_929 : decode cL_law 929 = .ok (.aload_n 2, 1) := by decide +kernel
theorem dL_law_930 : decode cL_law 930 = .ok (.aload_n 0, 1) := by decide +kernel
theorem dL_law_931 : decode cL_law 931 = .ok (.iload_n 3, 1) := by decide +kernel
theorem dL_law_932 : decode cL_law 932 = .ok (.iconst 1, 1) := by decide +kernel
theorem dL_law_933 : decode cL_law 933 = .ok (.iadd, 1) := by decide +kernel
theorem dL_law_934 : decode cL_law 934 = .ok (.iaload, 1) := by decide +kernel
theorem dL_law_935 : decode cL_law 935 = .ok (.aload_n 0, 1) := by decide +kernel
theorem dL_law_936 : decode cL_law 936 = .ok (.iload_n 3, 1) := by decide +kernel
theorem dL_law_937 : decode cL_law 937 = .ok (.iconst 2, 1) := by decide +kernel
theorem dL_law_938 : decode cL_law 938 = .ok (.iadd, 1) := by decide +kernel
theorem dL_law_939 : decode cL_law 939 = .ok (.iaload, 1) := by decide +kernel
theorem dL_law_940 : decode cL_law 940 = .ok (.aload_n 0, 1) := by decide +kernel
theorem dL_law_941 : decode cL_law 941 = .ok (.iload_n 3, 1) := by decide +kernel
theorem dL_law_942 : decode cL_law 942 = .ok (.iconst 3, 1) := by decide +kernel
theorem dL_law_943 : decode cL_law 943 = .ok (.iadd, 1) := by decide +kernel
theorem dL_law_944 : decode cL_law 944 = .ok (.iaload, 1) := by decide +kernel
theorem dL_law_945 : decode cL_law 945 = .ok (.invokevirtual 112, 3) := by decide +kernel
theorem dL_law_948 : decode cL_law 948 = .ok (.if_icmp .eq 700, 3) := by decide +kernel
set_option maxHeartbeats 4000000 in
set_option maxRecDepth 20000 in
theorem lo_wishFor {p : Program} {l : Launch} {e : Env} {s : State} {m : MethodId} {args : Array Value} {below : List Frame} {meth : Method} {c : Code} {Q : State → Prop} {ad : Nat → Nat} {D : va_G} {cs : Nat → ClassId} {A : Nat → Prop} {hx hm : Nat → Nat} {b L : Nat} {xs : Nat → Int32} (C : Cx p s m args c cL_law 4 RL ad D (tysW cs) A) (X : Scr s A b L xs) (hL : L < 2 ^ 31) {σ τ : Nat → Nat → Int32} (h : Rel σ τ) {i : Nat} (hi : i + 4 < L) (k : ∀ σ2 τ2, Rel σ2 τ2 → VN p l e room_1 s m args below meth c Q D A 4 78 1876 (wX cs hx σ2 ++ wM cs hm τ2) 1648 [(3, .int (nI i)), (2, .ref (hm 0)), (1, .ref (hx 0)), (0, .ref b)] []) : VN p l e room_1 s m args below meth c Q D A 4 78 1876 (wX cs hx σ ++ wM cs hm τ) 910 [(3, .int (nI i)), (2, .ref (hm 0)), (1, .ref (hx 0)), (0, .ref b)] [] := by
  obtain ⟨n, rr⟩ := h.row
  have ho := o_wishFor h rr ((xs (i + 1))) ((xs (i + 2))) ((xs (i + 3)))
  refine n_aload_n (pc := 910) C 2 dL_law_910 rfl rfl ?_
  refine n_aload_n (pc := 911) C 3 dL_law_911 rfl rfl ?_
  refine n_iload_n (pc := 912) C 0 dL_law_912 rfl rfl ?_
  refine n_iconst (pc := 913) C (nI 1) dL_law_913 (by decide) ?_
  refine n_iadd (pc := 914) C dL_law_914 ?_
  refine n_sld (pc := 915) C X (i + 1) (nI_add i 1) (by omega) hL dL_law_915 ?_
  refine n_aload_n (pc := 916) C 3 dL_law_916 rfl rfl ?_
  refine n_iload_n (pc := 917) C 0 dL_law_917 rfl rfl ?_
  refine n_iconst (pc := 918) C (nI 2) dL_law_918 (by decide) ?_
  refine n_iadd (pc := 919) C dL_law_919 ?_
  refine n_sld (pc := 920) C X (i + 2) (nI_add i 2) (by omega) hL dL_law_920 ?_
  refine n_aload_n (pc := 921) C 3 dL_law_921 rfl rfl ?_
  refine n_iload_n (pc := 922) C 0 dL_law_922 rfl rfl ?_
  refine n_iconst (pc := 923) C (nI 3) dL_law_923 (by decide) ?_
  refine n_iadd (pc := 924) C dL_law_924 ?_
  refine n_sld (pc := 925) C X (i + 3) (nI_add i 3) (by omega) hL dL_law_925 ?_
  refine n_Vi (pc := 926) C (As := [.int (xs (i + 1)), .int (xs (i + 2)), .int (xs (i + 3))]) (rest := []) (b := hx 0) (ci := 5) (q0 := 0) (w' := wX cs hx (su σ 2 (gateF (oneB n ((xs (i + 1))) && (inB ((xs (i + 2))) 1 20 && inB ((xs (i + 3))) 0 9999)) (itT (fun v_ => daysF n (upd (σ 0) (8 + 5 * ((xs (i + 1))).toNatClampNeg + 2) (nI v_)) ((xs (i + 2))).toNatClampNeg) (σ 2) (min (fnN (fun t_ => decide (((xs (i + 3))) ≤ purF n (upd (σ 0) (8 + 5 * ((xs (i + 1))).toNatClampNeg + 2) (nI t_)) ((xs (i + 1))).toNatClampNeg ((xs (i + 2))).toNatClampNeg)) 0 100 + 1) 100)) (σ 2))) ++ wM cs hm τ) (t_X5_wishFor l ad D cs hx σ [] (wM cs hm τ) n ((xs (i + 1))) ((xs (i + 2))) ((xs (i + 3))) rr.h0 rr.hn rr.rg) mv_X5_wishFor ml_RL_109 rfl ⟨(Nat.le_of_ble_eq_true rfl), (Nat.le_of_ble_eq_true rfl)⟩ ⟨rfl, rfl⟩ rfl rfl rfl rfl rfl rfl (Nat.le_of_ble_eq_true rfl) dL_law_926 (Nat.le_of_ble_eq_true rfl) (Nat.le_of_ble_eq_true rfl) ?_
  refine n_aload_n (pc := 929) C 1 dL_law_929 rfl rfl ?_
  refine n_aload_n (pc := 930) C 3 dL_law_930 rfl rfl ?_
  refine n_iload_n (pc := 931) C 0 dL_law_931 rfl rfl ?_
  refine n_iconst (pc := 932) C (nI 1) dL_law_932 (by decide) ?_
  refine n_iadd (pc := 933) C dL_law_933 ?_
  refine n_sld (pc := 934) C X (i + 1) (nI_add i 1) (by omega) hL dL_law_934 ?_
  refine n_aload_n (pc := 935) C 3 dL_law_935 rfl rfl ?_
  refine n_iload_n (pc := 936) C 0 dL_law_936 rfl rfl ?_
  refine n_iconst (pc := 937) C (nI 2) dL_law_937 (by decide) ?_
  refine n_iadd (pc := 938) C dL_law_938 ?_
  refine n_sld (pc := 939) C X (i + 2) (nI_add i 2) (by omega) hL dL_law_939 ?_
  refine n_aload_n (pc := 940) C 3 dL_law_940 rfl rfl ?_
  refine n_iload_n (pc := 941) C 0 dL_law_941 rfl rfl ?_
  refine n_iconst (pc := 942) C (nI 3) dL_law_942 (by decide) ?_
  refine n_iadd (pc := 943) C dL_law_943 ?_
  refine n_sld (pc := 944) C X (i + 3) (nI_add i 3) (by omega) hL dL_law_944 ?_
  refine n_Vi (pc := 945) C (As := [.int (xs (i + 1)), .int (xs (i + 2)), .int (xs (i + 3))]) (rest := [.int _]) (b := hm 0) (ci := 6) (q0 := 0) (w' := wX cs hx (su σ 2 (gateF (oneB n ((xs (i + 1))) && (inB ((xs (i + 2))) 1 20 && inB ((xs (i + 3))) 0 9999)) (itT (fun v_ => daysF n (upd (σ 0) (8 + 5 * ((xs (i + 1))).toNatClampNeg + 2) (nI v_)) ((xs (i + 2))).toNatClampNeg) (σ 2) (min (fnN (fun t_ => decide (((xs (i + 3))) ≤ purF n (upd (σ 0) (8 + 5 * ((xs (i + 1))).toNatClampNeg + 2) (nI t_)) ((xs (i + 1))).toNatClampNeg ((xs (i + 2))).toNatClampNeg)) 0 100 + 1) 100)) (σ 2))) ++ wM cs hm (su τ 2 (gateF (oneB n ((xs (i + 1))) && (inB ((xs (i + 2))) 1 20 && inB ((xs (i + 3))) 0 9999)) (upd (τ 0) (8 + 5 * ((xs (i + 1))).toNatClampNeg + 2) (wshV (fndP (fun t_ => decide (((xs (i + 3))) ≤ purF n (upd (τ 0) (8 + 5 * ((xs (i + 1))).toNatClampNeg + 2) (nI t_)) ((xs (i + 1))).toNatClampNeg ((xs (i + 2))).toNatClampNeg)) 0 100))) (τ 2)))) (t_X6_wishFor l ad D cs hm τ (wX cs hx (su σ 2 (gateF (oneB n ((xs (i + 1))) && (inB ((xs (i + 2))) 1 20 && inB ((xs (i + 3))) 0 9999)) (itT (fun v_ => daysF n (upd (σ 0) (8 + 5 * ((xs (i + 1))).toNatClampNeg + 2) (nI v_)) ((xs (i + 2))).toNatClampNeg) (σ 2) (min (fnN (fun t_ => decide (((xs (i + 3))) ≤ purF n (upd (σ 0) (8 + 5 * ((xs (i + 1))).toNatClampNeg + 2) (nI t_)) ((xs (i + 1))).toNatClampNeg ((xs (i + 2))).toNatClampNeg)) 0 100 + 1) 100)) (σ 2)))) [] n ((xs (i + 1))) ((xs (i + 2))) ((xs (i + 3))) rr.h0' rr.hn) mv_X6_wishFor ml_RL_112 rfl ⟨(Nat.le_of_ble_eq_true rfl), (Nat.le_of_ble_eq_true rfl)⟩ ⟨rfl, rfl⟩ rfl rfl rfl (by rw [List.append_nil]) (by rw [List.append_nil]) rfl (Nat.le_of_ble_eq_true rfl) dL_law_945 (Nat.le_of_ble_eq_true rfl) (Nat.le_of_ble_eq_true rfl) ?_
  refine n_icmp_eq (pc := 948) C 1648 dL_law_948 (by decide) (fun _ => k _ _ ho.2) (fun hne => absurd ho.1 hne)
theorem dL_law_953 : decode cL_law 953 = .ok (.aload_n 1, 1) := by decide +kernel
theorem dL_law_954 : decode cL_law 954 = .ok (.aload_n 0, 1) := by decide +kernel
theorem dL_law_955 : decode cL_law 955 = .ok (.iload_n 3, 1) := by decide +kernel
theorem dL_law_956 : decode cL_law 956 = .ok (.iconst 1, 1) := by decide +kernel
theorem dL_law_957 : decode cL_law 957 = .ok (.iadd, 1) := by decide +kernel
theorem dL_law_958 : decode cL_law 958 = .ok (.iaload, 1) := by decide +kernel
theorem dL_law_959 : decode cL_law 959 = .ok (.aload_n 0, 1) := by decide +kernel
theorem dL_law_960 : decode cL_law 960 = .ok (.iload_n 3, 1) := by decide +kernel
theorem dL_law_961 : decode cL_law 961 = .ok (.iconst 2, 1) := by decide +kernel
theorem dL_law_962 : decode cL_law 962 = .ok (.iadd, 1) := by decide +kernel
theorem dL_law_963 : decode cL_law 963 = .ok (.iaload, 1) := by decide +kernel
theorem dL_law_964 : decode cL_law 964 = .ok (.invokevirtual 113, 3) := by decide +kernel
theorem dL_law_967 : decode cL_law 967 = .ok (.aload_n 2, 1) := by decide +kernel
theorem dL_law_968 : decode cL_law 968 = .ok (.aload_n 0, 1) := by decide +kernel
theorem dL_law_969 : decode cL_law 969 = .ok (.iload_n 3, 1) := by decide +kernel
theorem dL_law_970 : decode cL_law 970 = .ok (.iconst 1, 1) := by decide +kernel
theorem dL_law_971 : decode cL_law 971 = .ok (.iadd, 1) := by decide +kernel
theorem dL_law_972 : decode cL_law 972 = .ok (.iaload, 1) := by decide +kernel
theorem dL_law_973 : decode cL_law 973 = .ok (.aload_n 0, 1) := by decide +kernel
theorem dL_law_974 : decode cL_law 974 = .ok (.iload_n 3, 1) := by decide +kernel
theorem dL_law_975 : decode cL_law 975 = .ok (.iconst 2, 1) := by decide +kernel
theorem dL_law_976 : decode cL_law 976 = .ok (.iadd, 1) := by decide +kernel
theorem dL_law_977 : decode cL_law 977 = .ok (.iaload, 1) := by decide +kernel
theorem dL_law_978 : decode cL_law 978 = .ok (.invokevirtual 116, 3) := by decide +kernel
theorem dL_law_981 : decode cL_law 981 = .ok (.if_icmp .eq 667, 3) := by decide +kernel
set_option maxHeartbeats 4000000 in
set_option maxRecDepth 20000 in
theorem lo_changeFor {p : Program} {l : Launch} {e : Env} {s : State} {m : MethodId} {args : Array Value} {below : List Frame} {meth : Method} {c : Code} {Q : State → Prop} {ad : Nat → Nat} {D : va_G} {cs : Nat → ClassId} {A : Nat → Prop} {hx hm : Nat → Nat} {b L : Nat} {xs : Nat → Int32} (C : Cx p s m args c cL_law 4 RL ad D (tysW cs) A) (X : Scr s A b L xs) (hL : L < 2 ^ 31) {σ τ : Nat → Nat → Int32} (h : Rel σ τ) {i : Nat} (hi : i + 4 < L) (k : ∀ σ2 τ2, Rel σ2 τ2 → VN p l e room_1 s m args below meth c Q D A 4 78 1876 (wX cs hx σ2 ++ wM cs hm τ2) 1648 [(3, .int (nI i)), (2, .ref (hm 0)), (1, .ref (hx 0)), (0, .ref b)] []) : VN p l e room_1 s m args below meth c Q D A 4 78 1876 (wX cs hx σ ++ wM cs hm τ) 953 [(3, .int (nI i)), (2, .ref (hm 0)), (1, .ref (hx 0)), (0, .ref b)] [] := by
  obtain ⟨n, rr⟩ := h.row
  have ho := o_changeFor h rr ((xs (i + 1))) ((xs (i + 2)))
  refine n_aload_n (pc := 953) C 2 dL_law_953 rfl rfl ?_
  refine n_aload_n (pc := 954) C 3 dL_law_954 rfl rfl ?_
  refine n_iload_n (pc := 955) C 0 dL_law_955 rfl rfl ?_
  refine n_iconst (pc := 956) C (nI 1) dL_law_956 (by decide) ?_
  refine n_iadd (pc := 957) C dL_law_957 ?_
  refine n_sld (pc := 958) C X (i + 1) (nI_add i 1) (by omega) hL dL_law_958 ?_
  refine n_aload_n (pc := 959) C 3 dL_law_959 rfl rfl ?_
  refine n_iload_n (pc := 960) C 0 dL_law_960 rfl rfl ?_
  refine n_iconst (pc := 961) C (nI 2) dL_law_961 (by decide) ?_
  refine n_iadd (pc := 962) C dL_law_962 ?_
  refine n_sld (pc := 963) C X (i + 2) (nI_add i 2) (by omega) hL dL_law_963 ?_
  refine n_Vi (pc := 964) C (As := [.int (xs (i + 1)), .int (xs (i + 2))]) (rest := []) (b := hx 0) (ci := 5) (q0 := 0) (w' := wX cs hx (su σ 2 (gateF (oneB n ((xs (i + 1))) && inB ((xs (i + 2))) 1 20) (cfT n (σ 0) ((xs (i + 1))).toNatClampNeg ((xs (i + 2))).toNatClampNeg n) (σ 2))) ++ wM cs hm τ) (t_X5_changeFor l ad D cs hx σ [] (wM cs hm τ) n ((xs (i + 1))) ((xs (i + 2))) rr.h0 rr.hn rr.rg) mv_X5_changeFor ml_RL_113 rfl ⟨(Nat.le_of_ble_eq_true rfl), (Nat.le_of_ble_eq_true rfl)⟩ ⟨rfl, rfl⟩ rfl rfl rfl rfl rfl rfl (Nat.le_of_ble_eq_true rfl) dL_law_964 (Nat.le_of_ble_eq_true rfl) (Nat.le_of_ble_eq_true rfl) ?_
  refine n_aload_n (pc := 967) C 1 dL_law_967 rfl rfl ?_
  refine n_aload_n (pc := 968) C 3 dL_law_968 rfl rfl ?_
  refine n_iload_n (pc := 969) C 0 dL_law_969 rfl rfl ?_
  refine n_iconst (pc := 970) C (nI 1) dL_law_970 (by decide) ?_
  refine n_iadd (pc := 971) C dL_law_971 ?_
  refine n_sld (pc := 972) C X (i + 1) (nI_add i 1) (by omega) hL dL_law_972 ?_
  refine n_aload_n (pc := 973) C 3 dL_law_973 rfl rfl ?_
  refine n_iload_n (pc := 974) C 0 dL_law_974 rfl rfl ?_
  refine n_iconst (pc := 975) C (nI 2) dL_law_975 (by decide) ?_
  refine n_iadd (pc := 976) C dL_law_976 ?_
  refine n_sld (pc := 977) C X (i + 2) (nI_add i 2) (by omega) hL dL_law_977 ?_
  refine n_Vi (pc := 978) C (As := [.int (xs (i + 1)), .int (xs (i + 2))]) (rest := [.int _]) (b := hm 0) (ci := 6) (q0 := 0) (w' := wX cs hx (su σ 2 (gateF (oneB n ((xs (i + 1))) && inB ((xs (i + 2))) 1 20) (cfT n (σ 0) ((xs (i + 1))).toNatClampNeg ((xs (i + 2))).toNatClampNeg n) (σ 2))) ++ wM cs hm (su τ 2 (gateF (oneB n ((xs (i + 1))) && inB ((xs (i + 2))) 1 20) (cfA (τ 0) ((xs (i + 1))).toNatClampNeg n) (τ 2)))) (t_X6_changeFor l ad D cs hm τ (wX cs hx (su σ 2 (gateF (oneB n ((xs (i + 1))) && inB ((xs (i + 2))) 1 20) (cfT n (σ 0) ((xs (i + 1))).toNatClampNeg ((xs (i + 2))).toNatClampNeg n) (σ 2)))) [] n ((xs (i + 1))) ((xs (i + 2))) rr.h0' rr.hn) mv_X6_changeFor ml_RL_116 rfl ⟨(Nat.le_of_ble_eq_true rfl), (Nat.le_of_ble_eq_true rfl)⟩ ⟨rfl, rfl⟩ rfl rfl rfl (by rw [List.append_nil]) (by rw [List.append_nil]) rfl (Nat.le_of_ble_eq_true rfl) dL_law_978 (Nat.le_of_ble_eq_true rfl) (Nat.le_of_ble_eq_true rfl) ?_
  refine n_icmp_eq (pc := 981) C 1648 dL_law_981 (by decide) (fun _ => k _ _ ho.2) (fun hne => absurd ho.1 hne)
