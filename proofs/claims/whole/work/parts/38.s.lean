/-! texts -/
def jsC (q k : Nat) : Nat := ((jsB.getD q []).getD k 0).toNatClampNeg
theorem js_c : ∀ q, q < 14 → ∀ k, k < jsL.getD q 0 → (((jsB.getD q []).getD k 0 &&& 255).toUInt32 % 65536).toInt32 = nI (jsC q k) ∧ jsC q k < 128 := by decide +kernel
theorem js_l : ∀ q, q < 14 → 0 < jsL.getD q 0 ∧ jsL.getD q 0 ≤ 10 := by decide +kernel
theorem nar_ch : ∀ c, c < 128 → narrow .char (.int (nI c)) = .int (nI c) := by
  have h : ∀ c, c < 128 → (nI c).toUInt32.toUInt16.toUInt32.toInt32 = nI c := by decide +kernel
  exact fun c hc => congrArg Value.int (h c hc)
section VXS
variable {p : Program} {l : Launch} {e : Env} {R : Room} {s : State} {m : MethodId} {args : Array Value} {below : List Frame} {meth : Method} {c : Code} {Q : State → Prop} {ad : Nat → Nat} {D : va_G} {tys : List (ClassId × FieldType)} {A : Nat → Prop} {cc : ByteArray} {nL : Nat} {own : String} {pre blk blk' post : va_W} {pc : Nat} {lv : List (Nat × Value)} {rest : List Value}
theorem C_sf (C : Cx p s m args c cc nL own ad D tys A) : SF ad A s s.heap := C.2.2.2.2.2.2.1
theorem C_str (C : Cx p s m args c cc nL own ad D tys A) : vk_S 14 jsL jsB (fun i => ad (10 + i)) (fun i => ad (30 + i)) A s s.heap := C.2.2.2.2.2.2.1.2.2.2.2.2.1
theorem r_i2c (C : Cx p s m args c cc nL own ad D tys A) {x : Int32} (hdg : decode cc pc = .ok (.i2c, 1)) (k : VX p l e R s m args below meth c Q D A nL pre blk post (pc + 1) lv (.int ((x.toUInt32 % 65536).toInt32) :: rest)) : VX p l e R s m args below meth c Q D A nL pre blk post pc lv (.int x :: rest) := fun H locs ls hP hD hS hl => lv_i2c C.1 C.2.1 hdg rfl (k H locs ls hP hD hS hl)
theorem r_sval {index q : Nat} (hq : q < 14) (C : Cx p s m args c cc nL own ad D tys A) (hl : Cond.fieldLink own index "java/lang/String" "value" "[B" ∈ ALLW) (hdg : decode cc pc = .ok (.getfield index, 3)) (k : VX p l e R s m args below meth c Q D A nL pre blk post (pc + 3) lv (.ref (ad (30 + q)) :: rest)) : VX p l e R s m args below meth c Q D A nL pre blk post pc lv (.ref (ad (10 + q)) :: rest) := fun H locs ls hP hD hS hl2 =>
  vk_getf C.1 C.2.1 ((C_str C).1 q hq).2.2.1 hS C.2.2.2.1 (C.2.2.2.2.1 _ hl) (fun _ h => h) hdg (k H locs ls hP hD hS hl2)
theorem r_scod {index q : Nat} (hq : q < 14) (C : Cx p s m args c cc nL own ad D tys A) (hl : Cond.fieldLink own index "java/lang/String" "coder" "B" ∈ ALLW) (hdg : decode cc pc = .ok (.getfield index, 3)) (k : VX p l e R s m args below meth c Q D A nL pre blk post (pc + 3) lv (.int 0 :: rest)) : VX p l e R s m args below meth c Q D A nL pre blk post pc lv (.ref (ad (10 + q)) :: rest) := fun H locs ls hP hD hS hl2 =>
  vk_getf C.1 C.2.1 ((C_str C).1 q hq).2.1 hS C.2.2.2.1 (C.2.2.2.2.1 _ hl) (fun _ h => h) hdg (k H locs ls hP hD hS hl2)
theorem r_slen (C : Cx p s m args c cc nL own ad D tys A) {q : Nat} (hq : q < 14) (hdg : decode cc pc = .ok (.arraylength, 1)) (k : VX p l e R s m args below meth c Q D A nL pre blk post (pc + 1) lv (.int (nI (jsL.getD q 0)) :: rest)) : VX p l e R s m args below meth c Q D A nL pre blk post pc lv (.ref (ad (30 + q)) :: rest) := fun H locs ls hP hD hS hl2 =>
  va_tlen C.1 C.2.1 ((C_str C).1 q hq).2.2.2 hS rfl hdg (k H locs ls hP hD hS hl2)
theorem r_sbyt (C : Cx p s m args c cc nL own ad D tys A) {q : Nat} (hq : q < 14) {i : Int32} (j : Nat) (hi : i = nI j) (hj : j < jsL.getD q 0) (hdg : decode cc pc = .ok (.baload, 1)) (k : VX p l e R s m args below meth c Q D A nL pre blk post (pc + 1) lv (.int ((jsB.getD q []).getD j 0) :: rest)) : VX p l e R s m args below meth c Q D A nL pre blk post pc lv (.int i :: .ref (ad (30 + q)) :: rest) := fun H locs ls hP hD hS hl2 => by
  subst hi
  have hL := js_l q hq
  refine va_tb C.1 C.2.1 ((C_str C).1 q hq).2.2.2 hS (vp_in_nI hj (by omega)) ?_ hdg (k H locs ls hP hD hS hl2)
  rw [nI_clamp (by omega)]
theorem r_cmps (C : Cx p s m args c cc nL own ad D tys A) {index : Nat} (hl : Cond.fieldLink own index "java/lang/String" "COMPACT_STRINGS" "Z" ∈ ALLW) (hdg : decode cc pc = .ok (.getstatic index, 3)) (k : VX p l e R s m args below meth c Q D A nL pre blk post (pc + 3) lv (.int 1 :: rest)) : VX p l e R s m args below meth c Q D A nL pre blk post pc lv rest := fun H locs ls hP hD hS hl2 =>
  va_gets C.1 C.2.1 (C_sf C).2.2.2.1 hS C.2.2.2.1 (C.2.2.2.2.1 _ hl) (fun _ h => h) hdg (k H locs ls hP hD hS hl2)
theorem r_sfmt (C : Cx p s m args c cc nL own ad D tys A) {index : Nat} (hl : Cond.fieldLink own index "jdk/internal/util/Preconditions" "SIOOBE_FORMATTER" "Ljava/util/function/BiFunction;" ∈ ALLW) (hdg : decode cc pc = .ok (.getstatic index, 3)) (k0 : VX p l e R s m args below meth c Q D A nL pre blk post (pc + 3) lv (.null :: rest)) (k1 : ∀ t, VX p l e R s m args below meth c Q D A nL pre blk post (pc + 3) lv (.ref t :: rest)) : VX p l e R s m args below meth c Q D A nL pre blk post pc lv rest := fun H locs ls hP hD hS hl2 => by
  rcases (C_sf C).2.2.2.2.1 with hz | ⟨t, hz⟩
  · exact va_gets C.1 C.2.1 hz hS C.2.2.2.1 (C.2.2.2.2.1 _ hl) (fun _ h => h) hdg (k0 H locs ls hP hD hS hl2)
  · exact va_gets C.1 C.2.1 hz hS C.2.2.2.1 (C.2.2.2.2.1 _ hl) (fun _ h => h) hdg (k1 t H locs ls hP hD hS hl2)
theorem r_ldcS (C : Cx p s m args c cc nL RX3 ad D tys A) {index : Nat} (q : Nat) (hq : q < 14) (hi : jsK.getD q 0 = index) (hdg : decode cc pc = .ok (.ldc index, 2)) (k : VX p l e R s m args below meth c Q D A nL pre blk post (pc + 2) lv (.ref (ad (10 + q)) :: rest)) : VX p l e R s m args below meth c Q D A nL pre blk post pc lv rest := fun H locs ls hP hD hS hl2 => by
  subst hi
  exact va_ldcS C.1 C.2.1 C.2.2.2.1 ((C_sf C).2.2.2.2.2.2.1 q hq) hdg (k H locs ls hP hD hS hl2)
/-- a static table of ints is copied into a row -/
theorem r_copyt (C : Cx p s m args c cc nL own ad D tys A) {index : Nat} (hl : Cond.methodLink own index arraycopyName ∈ ALLW) {b0 n0 : Nat} {f : Nat → Int32} (hX : va_T .int b0 n0 (fun j => .int (f j)) A s s.heap) (q1 t1 : Nat) {a : Nat} {c1 : ClassId} {n1 : Nat} {g : Nat → Int32} (ha1 : blk[q1]? = some (a, .inl (c1, n1, .inl g))) (ht1 : tys[t1]? = some (c1, .int)) (k : Nat) (h0 : k ≤ n0) (h1 : k ≤ n1) (hk : k < 2 ^ 31) (hf : 1 ≤ R.frames) (hlo : 8 + (nativeFrameWords "java/lang/System" "arraycopy" 5 + 11) ≤ R.locals) (hro : (rest.map fun v => v.category).sum ≤ 8) (hdg : decode cc pc = .ok (.invokestatic index, 3)) (hb2 : blk.set q1 (a, .inl (c1, n1, .inl (va_cpy f g 0 0 k))) = blk') (kk : VX p l e R s m args below meth c Q D A nL pre blk' post (pc + 3) lv rest) : VX p l e R s m args below meth c Q D A nL pre blk post pc lv (.int (nI k) :: .int 0 :: .ref a :: .int 0 :: .ref b0 :: rest) := fun H locs ls hP hD hS hl2 => by
  have hlt : q1 < blk.length := (List.getElem?_eq_some_iff.mp ha1).1
  have hc : (nI k).toNatClampNeg = k := nI_clamp hk
  have hz : (0 : Int32).toNatClampNeg = 0 := rfl
  have hb1 := bk_at (pre := pre) (post := post) ha1
  intro T hT X
  obtain ⟨scr, hs1, hs2, hs3, hs4, -, hs5, hs7⟩ := hX
  have hc0 : H[b0]? = some scr := by rw [hS.2.1 b0 (Array.getElem?_eq_some_iff.mp hs1).1 hs7]; exact hs1
  have hc1 : H[a]? = some (vp_cell c1 (n1, .inl g)) := hP _ _ hb1
  obtain ⟨hs6, k0, hk0, cm0, hkk0⟩ := hs2
  obtain ⟨-, k1, hk1, cm1, hkk1⟩ := (C.2.2.2.2.2.1.2 t1 _ ht1).1 n1 (fun j => .int (g j))
  obtain ⟨vm', X', step⟩ := X.arraycopy C.1 C.2.2.2.1 (C.2.2.2.2.1 _ hl) (C.2.2.2.2.1 _ ac_na) (C.2.2.2.2.1 _ ac_st) (C.2.2.2.2.1 _ sy_in) (src := b0) (dst := a) (cs := scr) (cd := vp_cell c1 (n1, .inl g)) (srcPos := 0) (destPos := 0) (n := nI k) (by rw [hT]; exact hc0) (by rw [hT]; exact hc1)
    hs6 (fun _ h => by cases h) hs3 (fun h => by cases h) hk0 hk1 hkk0 hkk1 (by simp [refKind]) (by decide) (by decide) (nI_pos hk)
    (by show ¬ ((0 : Int32).toInt + (nI k).toInt > _); rw [nI_toInt hk]; have e0 : (0 : Int32).toInt = 0 := rfl; omega)
    (by show ¬ ((0 : Int32).toInt + (nI k).toInt > ((arrV c1 n1 (fun j => .int (g j))).slots.size : Int)); rw [arrV_size, nI_toInt hk]; have e0 : (0 : Int32).toInt = 0 := rfl; omega)
    (fun vm₁ _ i hi => by
      rw [hc] at hi
      have e : scr.slots.getD ((0 : Int32).toNatClampNeg + i) .null = .int (f ((0 : Int32).toNatClampNeg + i)) := by
        rw [Array.getD_eq_getD_getElem?, hs5 _ (by rw [hz]; omega)]
        rfl
      rw [e]
      exact ⟨rfl, trivial⟩)
    (g := F0 m pc ls (.int (nI k) :: .int 0 :: .ref a :: .int 0 :: .ref b0 :: rest)) rfl (by rw [lv_size hl2]; exact C.2.2.1.symm) (rest := rest) rfl (by rw [C.2.1]; exact hdg) hf (by show 2 * 0 + _ + _ ≤ _; omega)
  have e1 : copied scr (vp_cell c1 (n1, .inl g)) 0 0 (nI k) = vp_cell c1 (n1, .inl (va_cpy f g (0 : Int32).toNatClampNeg (0 : Int32).toNatClampNeg (nI k).toNatClampNeg)) := va_copiedX (fun z => .int z) scr c1 f g hs5 (by rw [hc, hz]; omega)
  rw [hc, hz] at e1
  rw [e1] at X' step
  have hl3 : a < H.size := (Array.getElem?_eq_some_iff.mp hc1).1
  have hheap : ((T.setVm vm').setCell a (vp_cell c1 (n1, .inl (va_cpy f g 0 0 k)))).heap = H.setIfInBounds a (vp_cell c1 (n1, .inl (va_cpy f g 0 0 k))) := by rw [← hT]; rfl
  have oq : ∀ q : Nat, q ≠ a → (H.setIfInBounds a (vp_cell c1 (n1, .inl (va_cpy f g 0 0 k))))[q]? = H[q]? := fun q hq => by simp [Array.getElem?_setIfInBounds, Ne.symm hq]
  have hat : va_at D vwCl (a, .inl (c1, n1, .inl (va_cpy f g 0 0 k))) (H.setIfInBounds a (vp_cell c1 (n1, .inl (va_cpy f g 0 0 k)))) := by
    show (H.setIfInBounds a (vp_cell c1 (n1, .inl (va_cpy f g 0 0 k))))[a]? = some (vp_cell c1 (n1, .inl (va_cpy f g 0 0 k)))
    simp [Array.getElem?_setIfInBounds, hl3]
  have hP2 := hP.set hD hb1 hat oq
  have hD2 := hD.set (e := .inl (c1, n1, .inl (va_cpy f g 0 0 k))) hb1
  have hA : A a := hD.2 _ _ hb1
  rw [bk_set hlt, hb2] at hP2 hD2
  obtain ⟨t, a1, b1⟩ := kk _ _ ls hP2 hD2 ⟨by simp; exact hS.1, fun q g1 g2 => by
      rw [oq q (fun e => g2 (by rw [e]; exact hA))]
      exact hS.2.1 q g1 g2, fun q hq => by
      rcases List.mem_append.mp hq with h | h
      · exact hS.2.2 q h
      · obtain ⟨z, -, hz⟩ := List.mem_map.mp h
        rw [← hz]
        exact hA⟩ hl2 _ hheap X'
  exact ⟨t, step t a1, b1⟩
theorem rc_Zi (C : Cx p s m args c cc nL own ad D tys A) {y : MethodName} {bytes : ByteArray} {maxL index n : Nat} {rt : FieldType} {r : Int32} {rm : Room} {pre' cb cb' post' : va_W} {q0 : Nat} {As : List Value} {st : List Value} (hM : CTi l y bytes maxL rt rm ad D tys (pre' ++ (cb ++ post')) (.ref (ad (10 + q0)) :: As) r (pre' ++ (cb' ++ post'))) (hmv : MV y bytes maxL (some rt) n) (hl : Cond.methodLink own index y ∈ ALLW) (hn : As.length = n) (hR : rm.frames + 1 ≤ R.frames ∧ 8 + (maxL + 11) + rm.locals ≤ R.locals) (hrm : rm.cells = 0 ∧ rm.slots = 0) (hq0 : q0 < 14) (hcl : y.cls = "java/lang/String") (hw : pre ++ (blk ++ post) = pre' ++ (cb ++ post')) (hw2 : pre' ++ (cb' ++ post') = pre ++ (blk' ++ post)) (hst : st = As.reverse ++ .ref (ad (10 + q0)) :: rest) (hro : (rest.map fun v => v.category).sum ≤ 8) (hdg : decode cc pc = .ok (.invokevirtual index, 3)) (kk : VX p l e R s m args below meth c Q D A nL pre blk' post (pc + 3) lv (.int r :: rest)) : VX p l e R s m args below meth c Q D A nL pre blk post pc lv st := fun H locs ls hP hD hS hl2 => by
  subst hst
  rw [hw] at hP hD
  have hrecv : ∃ cell : Cell, H[ad (10 + q0)]? = some cell ∧ cell.vm.isStatics = false ∧ s.vm.findClass y.cls = some cell.cls := by
    rw [hcl]
    exact vk_recv (i := q0) (adK := fun i => ad (10 + i)) (C_str C) hq0 hS
  have hp := pre_of (av := .ref (ad (10 + q0)) :: As) C hP hD hS
  refine va_calli (va_runV ⟨C.1, C.2.1, C.2.2.1, C.2.2.2.1, C.2.2.2.2.1⟩ (hM H.size) (cwV n C.2.2.2.2.1 (gw_V hmv hl) rfl hrm.1 hrm.2 ⟨rfl, hmv.2.2.2.2⟩ hR) ⟨hp.1, hrecv, hp.2⟩ rfl hn hl2.1 rfl (lv_room hro) hdg ⟨Nat.zero_le _, Nat.zero_le _⟩) hS (fun q _ h => A_of C hD hS q h) (A_of C hD hS) (fun r9 u t H1 locs1 ht hvm hw hB hz1 hk1 hS1 => ?_)
  obtain ⟨hP1, hK1, hD1⟩ := hB
  rw [ht] at hP1
  have hD2 := hD1.weaken (fun k q _ h => A_of C hD hS q.1 h)
  rw [hw2] at hP1 hD2
  subst hw
  exact kk H1 locs1 ls hP1 hD2 hS1 hl2
end VXS
theorem mv_J0_length_8abf5 : MV yJ0_length_8abf5 cJ0_length_8abf5 1 (some .int) 0 := ⟨im_yJ0_length_8abf5, se_yJ0_length_8abf5, in_RJ0, co_yJ0_length_8abf5, by decide, by decide, by decide +kernel⟩
theorem mv_J0_coder_7d493 : MV yJ0_coder_7d493 cJ0_coder_7d493 1 (some .byte) 0 := ⟨im_yJ0_coder_7d493, se_yJ0_coder_7d493, in_RJ0, co_yJ0_coder_7d493, by decide, by decide, by decide +kernel⟩
theorem mv_J0_charAt_5068e : MV yJ0_charAt_5068e cJ0_charAt_5068e 2 (some .char) 1 := ⟨im_yJ0_charAt_5068e, se_yJ0_charAt_5068e, in_RJ0, co_yJ0_charAt_5068e, by decide, by decide, by decide +kernel⟩
theorem mv_J0_isLatin1_aae02 : MV yJ0_isLatin1_aae02 cJ0_isLatin1_aae02 1 (some .boolean) 0 := ⟨im_yJ0_isLatin1_aae02, se_yJ0_isLatin1_aae02, in_RJ0, co_yJ0_isLatin1_aae02, by decide, by decide, by decide +kernel⟩
theorem ms_J1_charAt_3b067 : MS yJ1_charAt_3b067 cJ1_charAt_3b067 2 (some .char) 2 := ⟨st_yJ1_charAt_3b067, in_RJ1, co_yJ1_charAt_3b067, by decide, by decide, by decide +kernel⟩
theorem ms_J0_checkIndex_df160 : MS yJ0_checkIndex_df160 cJ0_checkIndex_df160 2 none 2 := ⟨st_yJ0_checkIndex_df160, in_RJ0, co_yJ0_checkIndex_df160, by decide, by decide, by decide +kernel⟩
theorem ms_J3_checkIndex_8e157 : MS yJ3_checkIndex_8e157 cJ3_checkIndex_8e157 3 (some .int) 3 := ⟨st_yJ3_checkIndex_8e157, in_RJ3, co_yJ3_checkIndex_8e157, by decide, by decide, by decide +kernel⟩
def lw0 (m : Nat → Int32) : Nat → Int32 := fun j => if 4 ≤ j ∧ j < 8 then tbl0.getD (j - 4) 0 else m j
def bfF (m : Nat → Int32) : Nat → Int32 := upd (upd (upd (lw0 m) 0 0) 1 0) 3 0
theorem wK_lw0 {cs : Nat → ClassId} {g : Nat → Nat} {m : Nat → Int32} : (wK cs g m).set 1 (g 1, .inl (cs 0, 4, .inl (lawR (lw0 m)))) = wK cs g (lw0 m) := wK_lawX (fun x h => if_neg (by omega))
theorem kt_laws {p : Program} {l : Launch} {e : Env} {R : Room} {s : State} {m_ : MethodId} {args : Array Value} {below : List Frame} {meth : Method} {c : Code} {Q : State → Prop} {ad : Nat → Nat} {D : va_G} {cs : Nat → ClassId} {A : Nat → Prop} {cc : ByteArray} {nL : Nat} {own : String} {pre post : va_W} {pc : Nat} {lv : List (Nat × Value)} {rest : List Value} {g : Nat → Nat} {m : Nat → Int32} {index : Nat} (C : Cx p s m_ args c cc nL own ad D (tysW cs) A) (hl : Cond.methodLink own index arraycopyName ∈ ALLW) (hf : 1 ≤ R.frames) (hlo : 8 + (nativeFrameWords "java/lang/System" "arraycopy" 5 + 11) ≤ R.locals) (hro : (rest.map fun v => v.category).sum ≤ 8) (hdg : decode cc pc = .ok (.invokestatic index, 3)) (kk : VX p l e R s m_ args below meth c Q D A nL pre (wK cs g (lw0 m)) post (pc + 3) lv rest) : VX p l e R s m_ args below meth c Q D A nL pre (wK cs g m) post pc lv (.int 4 :: .int 0 :: .ref (g 1) :: .int 0 :: .ref (ad 0) :: rest) := by
  refine r_copyt C hl (C_t0 C).2 1 0 (c1 := cs 0) (n1 := 4) (g := lawR m) rfl rfl 4 (by decide) (by decide) (by decide) hf hlo hro hdg rfl ?_
  refine r_recell 1 (f := va_cpy (fun j => tbl0.getD j 0) (lawR m) 0 0 4) (g := lawR (lw0 m)) (n := 4) (a := g 1) (cA := cs 0) rfl (fun j hj => ?_) ?_ kk
  · unfold va_cpy
    rw [if_pos (by omega), lawR_lt hj]
    show _ = (if 4 ≤ 4 + j ∧ 4 + j < 8 then tbl0.getD (4 + j - 4) 0 else m (4 + j))
    rw [if_pos (by omega)]; congr 1; omega
  · rw [List.set_set]; exact wK_lw0
