theorem dL_law_16 : decode cL_law 16 = .ok (.iconst 0, 1) := by decide +kernel
theorem dL_law_17 : decode cL_law 17 = .ok (.istore_n 3, 1) := by decide +kernel
theorem dL_law_18 : decode cL_law 18 = .ok (.iload_n 3, 1) := by decide +kernel
theorem dL_law_19 : decode cL_law 19 = .ok (.aload_n 0, 1) := by decide +kernel
theorem dL_law_20 : decode cL_law 20 = .ok (.arraylength, 1) := by decide +kernel
theorem dL_law_21 : decode cL_law 21 = .ok (.iconst 5, 1) := by decide +kernel
theorem dL_law_22 : decode cL_law 22 = .ok (.isub, 1) := by decide +kernel
theorem dL_law_23 : decode cL_law 23 = .ok (.if_icmp .gt 1631, 3) := by decide +kernel
theorem dL_law_26 : decode cL_law 26 = .ok (.aload_n 0, 1) := by decide +kernel
theorem dL_law_27 : decode cL_law 27 = .ok (.iload_n 3, 1) := by decide +kernel
theorem dL_law_28 : decode cL_law 28 = .ok (.iaload, 1) := by decide +kernel
theorem dL_law_29 : decode cL_law 29 = .ok (.bipush 63, 2) := by decide +kernel
theorem dL_law_31 : decode cL_law 31 = .ok (.iand, 1) := by decide +kernel
theorem dL_law_32 : decode cL_law 32 = .ok (.tableswitch 1616 0 43 #[192, 255, 268, 301, 324, 377, 410, 443, 486, 529, 572, 605, 628, 651, 664, 697, 720, 753, 776, 789, 812, 845, 878, 921, 954, 977, 990, 1033, 1077, 1111, 1144, 1177, 1220, 1243, 1296, 1339, 1382, 1425, 1468, 1501, 1544, 1567, 1590, 1603], 192) := by decide +kernel
theorem dL_law_1648 : decode cL_law 1648 = .ok (.iinc 3 5, 3) := by decide +kernel
theorem dL_law_1651 : decode cL_law 1651 = .ok (.goto (-1633), 3) := by decide +kernel
theorem dL_law_1654 : decode cL_law 1654 = .ok (.iconst 1, 1) := by decide +kernel
theorem dL_law_1655 : decode cL_law 1655 = .ok (.ireturn, 1) := by decide +kernel
theorem and63 (x : Int32) : ∃ t : Nat, t < 64 ∧ x &&& 63 = nI t := by
  have h : (x &&& 63).toBitVec.toNat ≤ 63 := by
    rw [Int32.toBitVec_and, BitVec.toNat_and]
    exact Nat.and_le_right
  refine ⟨(x &&& 63).toBitVec.toNat, by omega, ?_⟩
  apply Int32.toBitVec_inj.mp
  apply BitVec.eq_of_toNat_eq
  rw [pk_tn (by omega)]
theorem lp_case {p : Program} {l : Launch} {e : Env} {s : State} {m : MethodId} {args : Array Value} {below : List Frame} {meth : Method} {c : Code} {Q : State → Prop} {ad : Nat → Nat} {D : va_G} {cs : Nat → ClassId} {A : Nat → Prop} {hx hm : Nat → Nat} {b L : Nat} {xs : Nat → Int32} (C : Cx p s m args c cL_law 4 RL ad D (tysW cs) A) (X : Scr s A b L xs) (hL : L < 2 ^ 31) {σ τ : Nat → Nat → Int32} (h : Rel σ τ) {i t : Nat} (ht : t < 64) (hi : i + 4 < L) (k : ∀ σ2 τ2, Rel σ2 τ2 → VN p l e room_1 s m args below meth c Q D A 4 78 1876 (wX cs hx σ2 ++ wM cs hm τ2) 1648 [(3, .int (nI i)), (2, .ref (hm 0)), (1, .ref (hx 0)), (0, .ref b)] []) : VN p l e room_1 s m args below meth c Q D A 4 78 1876 (wX cs hx σ ++ wM cs hm τ) 32 [(3, .int (nI i)), (2, .ref (hm 0)), (1, .ref (hx 0)), (0, .ref b)] [.int (nI t)] := by
  have hc : t = 0 ∨ t = 1 ∨ t = 2 ∨ t = 3 ∨ t = 4 ∨ t = 5 ∨ t = 6 ∨ t = 7 ∨ t = 8 ∨ t = 9 ∨ t = 10 ∨ t = 11 ∨ t = 12 ∨ t = 13 ∨ t = 14 ∨ t = 15 ∨ t = 16 ∨ t = 17 ∨ t = 18 ∨ t = 19 ∨ t = 20 ∨ t = 21 ∨ t = 22 ∨ t = 23 ∨ t = 24 ∨ t = 25 ∨ t = 26 ∨ t = 27 ∨ t = 28 ∨ t = 29 ∨ t = 30 ∨ t = 31 ∨ t = 32 ∨ t = 33 ∨ t = 34 ∨ t = 35 ∨ t = 36 ∨ t = 37 ∨ t = 38 ∨ t = 39 ∨ t = 40 ∨ t = 41 ∨ t = 42 ∨ t = 43 ∨ 44 ≤ t := by omega
  rcases hc with rfl | rfl | rfl | rfl | rfl | rfl | rfl | rfl | rfl | rfl | rfl | rfl | rfl | rfl | rfl | rfl | rfl | rfl | rfl | rfl | rfl | rfl | rfl | rfl | rfl | rfl | rfl | rfl | rfl | rfl | rfl | rfl | rfl | rfl | rfl | rfl | rfl | rfl | rfl | rfl | rfl | rfl | rfl | rfl | h44
  · exact n_tableIn (pc := 32) (off := 192) C 192 224 dL_law_32 (by decide) (by decide) (by decide) (by decide) (lo_feed C X hL h hi k)
  · exact n_tableIn (pc := 32) (off := 255) C 192 287 dL_law_32 (by decide) (by decide) (by decide) (by decide) (lo_market C X hL h hi k)
  · exact n_tableIn (pc := 32) (off := 268) C 192 300 dL_law_32 (by decide) (by decide) (by decide) (by decide) (lo_set C X hL h hi k)
  · exact n_tableIn (pc := 32) (off := 301) C 192 333 dL_law_32 (by decide) (by decide) (by decide) (by decide) (lo_lawOf C X hL h hi k)
  · exact n_tableIn (pc := 32) (off := 324) C 192 356 dL_law_32 (by decide) (by decide) (by decide) (by decide) (lo_person C X hL h hi k)
  · exact n_tableIn (pc := 32) (off := 377) C 192 409 dL_law_32 (by decide) (by decide) (by decide) (by decide) (lo_of C X hL h hi k)
  · exact n_tableIn (pc := 32) (off := 410) C 192 442 dL_law_32 (by decide) (by decide) (by decide) (by decide) (lo_does C X hL h hi k)
  · exact n_tableIn (pc := 32) (off := 443) C 192 475 dL_law_32 (by decide) (by decide) (by decide) (by decide) (lo_looks C X hL h hi k)
  · exact n_tableIn (pc := 32) (off := 486) C 192 518 dL_law_32 (by decide) (by decide) (by decide) (by decide) (lo_mind C X hL h hi k)
  · exact n_tableIn (pc := 32) (off := 529) C 192 561 dL_law_32 (by decide) (by decide) (by decide) (by decide) (lo_change C X hL h hi k)
  · exact n_tableIn (pc := 32) (off := 572) C 192 604 dL_law_32 (by decide) (by decide) (by decide) (by decide) (lo_trade C X hL h hi k)
  · exact n_tableIn (pc := 32) (off := 605) C 192 637 dL_law_32 (by decide) (by decide) (by decide) (by decide) (lo_days C X hL h hi k)
  · exact n_tableIn (pc := 32) (off := 628) C 192 660 dL_law_32 (by decide) (by decide) (by decide) (by decide) (lo_seed C X hL h hi k)
  · exact n_tableIn (pc := 32) (off := 651) C 192 683 dL_law_32 (by decide) (by decide) (by decide) (by decide) (lo_day C X hL h hi k)
  · exact n_tableIn (pc := 32) (off := 664) C 192 696 dL_law_32 (by decide) (by decide) (by decide) (by decide) (lo_lucky C X hL h hi k)
  · exact n_tableIn (pc := 32) (off := 697) C 192 729 dL_law_32 (by decide) (by decide) (by decide) (by decide) (lo_state C X hL h hi k)
  · exact n_tableIn (pc := 32) (off := 720) C 192 752 dL_law_32 (by decide) (by decide) (by decide) (by decide) (lo_purse C X hL h hi k)
  · exact n_tableIn (pc := 32) (off := 753) C 192 785 dL_law_32 (by decide) (by decide) (by decide) (by decide) (lo_steps C X hL h hi k)
  · exact n_tableIn (pc := 32) (off := 776) C 192 808 dL_law_32 (by decide) (by decide) (by decide) (by decide) (lo_all C X hL h hi k)
  · exact n_tableIn (pc := 32) (off := 789) C 192 821 dL_law_32 (by decide) (by decide) (by decide) (by decide) (lo_poor C X hL h hi k)
  · exact n_tableIn (pc := 32) (off := 812) C 192 844 dL_law_32 (by decide) (by decide) (by decide) (by decide) (lo_webFor C X hL h hi k)
  · exact n_tableIn (pc := 32) (off := 845) C 192 877 dL_law_32 (by decide) (by decide) (by decide) (by decide) (lo_kindFor C X hL h hi k)
  · exact n_tableIn (pc := 32) (off := 878) C 192 910 dL_law_32 (by decide) (by decide) (by decide) (by decide) (lo_wishFor C X hL h hi k)
  · exact n_tableIn (pc := 32) (off := 921) C 192 953 dL_law_32 (by decide) (by decide) (by decide) (by decide) (lo_changeFor C X hL h hi k)
  · exact n_tableIn (pc := 32) (off := 954) C 192 986 dL_law_32 (by decide) (by decide) (by decide) (by decide) (lo_fair C X hL h hi k)
  · exact n_tableIn (pc := 32) (off := 977) C 192 1009 dL_law_32 (by decide) (by decide) (by decide) (by decide) (lo_paired C X hL h hi k)
  · exact n_tableIn (pc := 32) (off := 990) C 192 1022 dL_law_32 (by decide) (by decide) (by decide) (by decide) (lo_fits C X hL h hi k)
  · exact n_tableIn (pc := 32) (off := 1033) C 192 1065 dL_law_32 (by decide) (by decide) (by decide) (by decide) (lo_odds C X hL h hi k)
  · exact n_tableIn (pc := 32) (off := 1077) C 192 1109 dL_law_32 (by decide) (by decide) (by decide) (by decide) (lo_hope C X hL h hi k)
  · exact n_tableIn (pc := 32) (off := 1111) C 192 1143 dL_law_32 (by decide) (by decide) (by decide) (by decide) (lo_prove C X hL h hi k)
  · exact n_tableIn (pc := 32) (off := 1144) C 192 1176 dL_law_32 (by decide) (by decide) (by decide) (by decide) (lo_row C X hL h hi k)
  · exact n_tableIn (pc := 32) (off := 1177) C 192 1209 dL_law_32 (by decide) (by decide) (by decide) (by decide) (lo_alterRow C X hL h hi k)
  · exact n_tableIn (pc := 32) (off := 1220) C 192 1252 dL_law_32 (by decide) (by decide) (by decide) (by decide) (lo_judge C X hL h hi k)
  · exact n_tableIn (pc := 32) (off := 1243) C 192 1275 dL_law_32 (by decide) (by decide) (by decide) (by decide) (lo_minds C X hL h hi k)
  · exact n_tableIn (pc := 32) (off := 1296) C 192 1328 dL_law_32 (by decide) (by decide) (by decide) (by decide) (lo_sheet C X hL h hi k)
  · exact n_tableIn (pc := 32) (off := 1339) C 192 1371 dL_law_32 (by decide) (by decide) (by decide) (by decide) (lo_put C X hL h hi k)
  · exact n_tableIn (pc := 32) (off := 1382) C 192 1414 dL_law_32 (by decide) (by decide) (by decide) (by decide) (lo_item C X hL h hi k)
  · exact n_tableIn (pc := 32) (off := 1425) C 192 1457 dL_law_32 (by decide) (by decide) (by decide) (by decide) (lo_shelf C X hL h hi k)
  · exact n_tableIn (pc := 32) (off := 1468) C 192 1500 dL_law_32 (by decide) (by decide) (by decide) (by decide) (lo_taken C X hL h hi k)
  · exact n_tableIn (pc := 32) (off := 1501) C 192 1533 dL_law_32 (by decide) (by decide) (by decide) (by decide) (lo_act C X hL h hi k)
  · exact n_tableIn (pc := 32) (off := 1544) C 192 1576 dL_law_32 (by decide) (by decide) (by decide) (by decide) (lo_trace C X hL h hi k)
  · exact n_tableIn (pc := 32) (off := 1567) C 192 1599 dL_law_32 (by decide) (by decide) (by decide) (by decide) (lo_many C X hL h hi k)
  · exact n_tableIn (pc := 32) (off := 1590) C 192 1622 dL_law_32 (by decide) (by decide) (by decide) (by decide) (lo_keep C X hL h hi k)
  · exact n_tableIn (pc := 32) (off := 1603) C 192 1635 dL_law_32 (by decide) (by decide) (by decide) (by decide) (lo_again C X hL h hi k)
  · exact n_tableOut (pc := 32) C 192 1648 dL_law_32 (Or.inr (by rw [nI_toInt (by omega)]; omega)) (by decide) (k σ τ h)
theorem lp_all {p : Program} {l : Launch} {e : Env} {s : State} {m : MethodId} {args : Array Value} {below : List Frame} {meth : Method} {c : Code} {Q : State → Prop} {ad : Nat → Nat} {D : va_G} {cs : Nat → ClassId} {A : Nat → Prop} {hx hm : Nat → Nat} {b L : Nat} {xs : Nat → Int32} (C : Cx p s m args c cL_law 4 RL ad D (tysW cs) A) (X : Scr s A b L xs) (hL : L < 2 ^ 31) (hL2 : L ≤ 2560) (kf : ∀ w lv, VN p l e room_1 s m args below meth c Q D A 4 78 1876 w 1655 lv [.int 1]) : ∀ (d i : Nat) (σ τ : Nat → Nat → Int32), L + 5 < i + d → i ≤ L + 5 → Rel σ τ → VN p l e room_1 s m args below meth c Q D A 4 78 1876 (wX cs hx σ ++ wM cs hm τ) 18 [(3, .int (nI i)), (2, .ref (hm 0)), (1, .ref (hx 0)), (0, .ref b)] []
  | 0, i, σ, τ, hd, hi, h => by omega
  | d + 1, i, σ, τ, hd, hi, h => by
    refine n_iload_n (pc := 18) C 0 dL_law_18 rfl rfl ?_
    refine n_aload_n (pc := 19) C 3 dL_law_19 rfl rfl ?_
    refine n_slen (pc := 20) C X dL_law_20 ?_
    refine n_iconst (pc := 21) C 5 dL_law_21 (by decide) ?_
    refine n_isub (pc := 22) C dL_law_22 ?_
    have e5 : (5 : Int32).toInt = 5 := rfl
    have eL : (nI L).toInt = (L : Int) := nI_toInt hL
    have ei : (nI i).toInt = (i : Int) := nI_toInt (by omega)
    have es : (nI L - 5).toInt = (L : Int) - 5 := by rw [sub_int (by omega) (by omega), eL, e5]
    refine n_icmp_gt (pc := 23) C 1654 dL_law_23 (by decide) (fun _ => ?_) (fun hg => ?_)
    · refine n_iconst (pc := 1654) C 1 dL_law_1654 (by decide) ?_
      exact kf _ _
    · rw [Int32.lt_iff_toInt_lt, es, ei] at hg
      have hi4 : i + 4 < L := by omega
      refine n_aload_n (pc := 26) C 3 dL_law_26 rfl rfl ?_
      refine n_iload_n (pc := 27) C 0 dL_law_27 rfl rfl ?_
      refine n_sld (pc := 28) C X i rfl (by omega) hL dL_law_28 ?_
      refine n_bipush (pc := 29) C 63 dL_law_29 (by decide) ?_
      refine n_iand (pc := 31) C dL_law_31 ?_
      obtain ⟨t, ht, et⟩ := and63 (xs i)
      rw [et]
      refine lp_case C X hL h ht hi4 (fun σ2 τ2 h2 => ?_)
      refine n_iinc (pc := 1648) C (nI (i + 5)) 0 [(3, .int (nI (i + 5))), (2, .ref (hm 0)), (1, .ref (hx 0)), (0, .ref b)] dL_law_1648 rfl (nI_add i 5) (by decide) rfl ?_
      refine n_goto (pc := 1651) C 18 dL_law_1651 (by decide) ?_
      exact lp_all C X hL hL2 kf d (i + 5) σ2 τ2 (by omega) (by omega) h2
