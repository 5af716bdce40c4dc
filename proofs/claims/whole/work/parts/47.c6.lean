theorem ints_at {D : va_G} {a n : Nat} {c : ClassId} {f g : Nat → Int32} (h : ∀ j, j < n → f j = g j) : ∀ H, va_at D vwCl (a, .inl (c, n, .inl f)) H → va_at D vwCl (a, .inl (c, n, .inl g)) H := fun H hP => by
  have h2 : vp_cell c (n, .inl f) = vp_cell c (n, .inl g) := by
    rw [vp_cell_i, vp_cell_i]
    unfold arrV
    congr 1
    apply Array.ext
    · simp
    · intro i h3 h4
      simp only [Array.getElem_ofFn]
      rw [h i (by simpa using h3)]
  show H[a]? = some (vp_cell c (n, .inl g))
  rw [← h2]; exact hP
section VNV
variable {p : Program} {l : Launch} {e : Env} {R : Room} {s : State} {m : MethodId} {args : Array Value} {below : List Frame} {meth : Method} {c : Code} {Q : State → Prop} {ad : Nat → Nat} {D : va_G} {cs : Nat → ClassId} {A : Nat → Prop} {cc : ByteArray} {nL : Nat} {own : String} {w w' : va_W} {pc : Nat} {lv : List (Nat × Value)} {rest : List Value} {cells slots : Nat}
theorem n_Vi (C : Cx p s m args c cc nL own ad D (tysW cs) A) {y : MethodName} {bytes : ByteArray} {maxL index n : Nat} {rt : FieldType} {r : Int32} {rm : Room} {pre' cb cb' post' : va_W} {b ci q0 : Nat} {As : List Value} {fs : List Value} {st : List Value} {cl : vw_C} (hM : CTi l y bytes maxL rt rm ad D (tysW cs) (pre' ++ (cb ++ post')) (.ref b :: As) r (pre' ++ (cb' ++ post'))) (hmv : MV y bytes maxL (some rt) n) (hl : Cond.methodLink own index y ∈ ALLW) (hn : As.length = n) (hR : rm.frames + 1 ≤ R.frames ∧ 8 + (maxL + 11) + rm.locals ≤ R.locals) (hrm : rm.cells = 0 ∧ rm.slots = 0) (hb : cb[q0]? = some (b, .inr (ci, fs))) (hci : vwCl[ci]? = some cl) (hcl : cl.1 = y.cls) (hw : w = pre' ++ (cb ++ post')) (hw2 : pre' ++ (cb' ++ post') = w') (hst : st = As.reverse ++ .ref b :: rest) (hro : (rest.map fun v => v.category).sum ≤ 8) (hdg : decode cc pc = .ok (.invokevirtual index, 3)) (hc : cells ≤ R.cells) (hs : slots ≤ R.slots) (kk : VN p l e R s m args below meth c Q D A nL cells slots w' (pc + 3) lv (.int r :: rest)) : VN p l e R s m args below meth c Q D A nL cells slots w pc lv st := fun H locs ls hP hD hS hl2 => by
  subst hst
  rw [hw] at hP hD
  have hrecv : ∃ cell : Cell, H[b]? = some cell ∧ cell.vm.isStatics = false ∧ s.vm.findClass y.cls = some cell.cls := by
    rw [← hcl]
    exact va_recv C.2.2.2.2.2.1 hP hci (bk_at hb)
  have hp := pre_of (av := .ref b :: As) C hP hD hS
  refine va_calli (va_runV ⟨C.1, C.2.1, C.2.2.1, C.2.2.2.1, C.2.2.2.2.1⟩ (hM H.size) (cwV n C.2.2.2.2.1 (gw_V hmv hl) rfl hrm.1 hrm.2 ⟨rfl, hmv.2.2.2.2⟩ hR) ⟨hp.1, hrecv, hp.2⟩ rfl hn hl2.1 rfl (lv_room hro) hdg ⟨hc, hs⟩) hS (fun q _ h => A_of C hD hS q h) (A_of C hD hS) (fun r9 u t H1 locs1 ht hvm hw hB hz1 hk1 hS1 => ?_)
  obtain ⟨hP1, hK1, hD1⟩ := hB
  rw [ht] at hP1
  have hD2 := hD1.weaken (fun k q _ h => A_of C hD hS q.1 h)
  rw [hw2] at hP1 hD2
  subst hw
  exact kk H1 locs1 ls hP1 hD2 hS1 hl2
theorem n_Vl (C : Cx p s m args c cc nL own ad D (tysW cs) A) {y : MethodName} {bytes : ByteArray} {maxL index n : Nat} {r : Int64} {rm : Room} {pre' cb cb' post' : va_W} {b ci q0 : Nat} {As : List Value} {fs : List Value} {st : List Value} {cl : vw_C} (hM : CTl l y bytes maxL rm ad D (tysW cs) (pre' ++ (cb ++ post')) (.ref b :: As) r (pre' ++ (cb' ++ post'))) (hmv : MV y bytes maxL (some .long) n) (hl : Cond.methodLink own index y ∈ ALLW) (hn : As.length = n) (hR : rm.frames + 1 ≤ R.frames ∧ 8 + (maxL + 11) + rm.locals ≤ R.locals) (hrm : rm.cells = 0 ∧ rm.slots = 0) (hb : cb[q0]? = some (b, .inr (ci, fs))) (hci : vwCl[ci]? = some cl) (hcl : cl.1 = y.cls) (hw : w = pre' ++ (cb ++ post')) (hw2 : pre' ++ (cb' ++ post') = w') (hst : st = As.reverse ++ .ref b :: rest) (hro : (rest.map fun v => v.category).sum ≤ 8) (hdg : decode cc pc = .ok (.invokevirtual index, 3)) (hc : cells ≤ R.cells) (hs : slots ≤ R.slots) (kk : VN p l e R s m args below meth c Q D A nL cells slots w' (pc + 3) lv (.long r :: rest)) : VN p l e R s m args below meth c Q D A nL cells slots w pc lv st := fun H locs ls hP hD hS hl2 => by
  subst hst
  rw [hw] at hP hD
  have hrecv : ∃ cell : Cell, H[b]? = some cell ∧ cell.vm.isStatics = false ∧ s.vm.findClass y.cls = some cell.cls := by
    rw [← hcl]
    exact va_recv C.2.2.2.2.2.1 hP hci (bk_at hb)
  have hp := pre_of (av := .ref b :: As) C hP hD hS
  refine va_calll (va_runV ⟨C.1, C.2.1, C.2.2.1, C.2.2.2.1, C.2.2.2.2.1⟩ (hM H.size) (cwV n C.2.2.2.2.1 (gw_V hmv hl) rfl hrm.1 hrm.2 ⟨rfl, hmv.2.2.2.2⟩ hR) ⟨hp.1, hrecv, hp.2⟩ rfl hn hl2.1 rfl (lv_room hro) hdg ⟨hc, hs⟩) hS (fun q _ h => A_of C hD hS q h) (A_of C hD hS) (fun r9 u t H1 locs1 ht hvm hw hB hz1 hk1 hS1 => ?_)
  obtain ⟨hP1, hK1, hD1⟩ := hB
  rw [ht] at hP1
  have hD2 := hD1.weaken (fun k q _ h => A_of C hD hS q.1 h)
  rw [hw2] at hP1 hD2
  subst hw
  exact kk H1 locs1 ls hP1 hD2 hS1 hl2
theorem n_Vv (C : Cx p s m args c cc nL own ad D (tysW cs) A) {y : MethodName} {bytes : ByteArray} {maxL index n : Nat} {rm : Room} {pre' cb cb' post' : va_W} {b ci q0 : Nat} {As : List Value} {fs : List Value} {st : List Value} {cl : vw_C} (hM : CTv l y bytes maxL rm ad D (tysW cs) (pre' ++ (cb ++ post')) (.ref b :: As) (pre' ++ (cb' ++ post'))) (hmv : MV y bytes maxL none n) (hl : Cond.methodLink own index y ∈ ALLW) (hn : As.length = n) (hR : rm.frames + 1 ≤ R.frames ∧ 8 + (maxL + 11) + rm.locals ≤ R.locals) (hrm : rm.cells = 0 ∧ rm.slots = 0) (hb : cb[q0]? = some (b, .inr (ci, fs))) (hci : vwCl[ci]? = some cl) (hcl : cl.1 = y.cls) (hw : w = pre' ++ (cb ++ post')) (hw2 : pre' ++ (cb' ++ post') = w') (hst : st = As.reverse ++ .ref b :: rest) (hro : (rest.map fun v => v.category).sum ≤ 8) (hdg : decode cc pc = .ok (.invokevirtual index, 3)) (hc : cells ≤ R.cells) (hs : slots ≤ R.slots) (kk : VN p l e R s m args below meth c Q D A nL cells slots w' (pc + 3) lv (rest)) : VN p l e R s m args below meth c Q D A nL cells slots w pc lv st := fun H locs ls hP hD hS hl2 => by
  subst hst
  rw [hw] at hP hD
  have hrecv : ∃ cell : Cell, H[b]? = some cell ∧ cell.vm.isStatics = false ∧ s.vm.findClass y.cls = some cell.cls := by
    rw [← hcl]
    exact va_recv C.2.2.2.2.2.1 hP hci (bk_at hb)
  have hp := pre_of (av := .ref b :: As) C hP hD hS
  refine va_callv (va_runV ⟨C.1, C.2.1, C.2.2.1, C.2.2.2.1, C.2.2.2.2.1⟩ (hM H.size) (cwV n C.2.2.2.2.1 (gw_V hmv hl) rfl hrm.1 hrm.2 ⟨rfl, hmv.2.2.2.2⟩ hR) ⟨hp.1, hrecv, hp.2⟩ rfl hn hl2.1 rfl (lv_room hro) hdg ⟨hc, hs⟩) hS (fun q _ h => A_of C hD hS q h) (A_of C hD hS) (fun u t H1 locs1 ht hvm hw hB hz1 hk1 hS1 => ?_)
  obtain ⟨hP1, hK1, hD1⟩ := hB
  rw [ht] at hP1
  have hD2 := hD1.weaken (fun k q _ h => A_of C hD hS q.1 h)
  rw [hw2] at hP1 hD2
  exact kk H1 locs1 ls hP1 hD2 hS1 hl2
end VNV
def sM0 : Nat → Nat → Int32 := fun k => if k = 0 then m00 else if k = 15 then (fun _ => -1) else fun _ => 0
theorem bg_m00 : ∀ j, j < 48 → upd (bgF 0) 2 1 j = m00 j := by decide +kernel
theorem up_m1 : ∀ j, j < 4 → upd (upd (upd (upd (fun _ => 0) 0 (-1)) 1 (-1)) 2 (-1)) 3 (-1) j = (fun _ => -1 : Nat → Int32) j := by decide +kernel
theorem dX6_init_0 : decode cX6_init 0 = .ok (.aload_n 0, 1) := by decide +kernel
theorem dX6_init_1 : decode cX6_init 1 = .ok (.invokespecial 1, 3) := by decide +kernel
theorem dX6_init_4 : decode cX6_init 4 = .ok (.aload_n 0, 1) := by decide +kernel
theorem dX6_init_5 : decode cX6_init 5 = .ok (.bipush 48, 2) := by decide +kernel
theorem dX6_init_7 : decode cX6_init 7 = .ok (.newarray .int, 2) := by decide +kernel
theorem dX6_init_9 : decode cX6_init 9 = .ok (.putfield 7, 3) := by decide +kernel
theorem dX6_init_12 : decode cX6_init 12 = .ok (.aload_n 0, 1) := by decide +kernel
theorem dX6_init_13 : decode cX6_init 13 = .ok (.bipush 48, 2) := by decide +kernel
theorem dX6_init_15 : decode cX6_init 15 = .ok (.newarray .int, 2) := by decide +kernel
theorem dX6_init_17 : decode cX6_init 17 = .ok (.putfield 13, 3) := by decide +kernel
theorem dX6_init_20 : decode cX6_init 20 = .ok (.aload_n 0, 1) := by decide +kernel
theorem dX6_init_21 : decode cX6_init 21 = .ok (.bipush 48, 2) := by decide +kernel
theorem dX6_init_23 : decode cX6_init 23 = .ok (.newarray .int, 2) := by decide +kernel
theorem dX6_init_25 : decode cX6_init 25 = .ok (.putfield 16, 3) := by decide +kernel
theorem dX6_init_28 : decode cX6_init 28 = .ok (.aload_n 0, 1) := by decide +kernel
theorem dX6_init_29 : decode cX6_init 29 = .ok (.bipush 48, 2) := by decide +kernel
theorem dX6_init_31 : decode cX6_init 31 = .ok (.newarray .int, 2) := by decide +kernel
theorem dX6_init_33 : decode cX6_init 33 = .ok (.putfield 19, 3) := by decide +kernel
theorem dX6_init_36 : decode cX6_init 36 = .ok (.aload_n 0, 1) := by decide +kernel
theorem dX6_init_37 : decode cX6_init 37 = .ok (.sipush 200, 3) := by decide +kernel
theorem dX6_init_40 : decode cX6_init 40 = .ok (.newarray .int, 2) := by decide +kernel
theorem dX6_init_42 : decode cX6_init 42 = .ok (.putfield 22, 3) := by decide +kernel
theorem dX6_init_45 : decode cX6_init 45 = .ok (.aload_n 0, 1) := by decide +kernel
theorem dX6_init_46 : decode cX6_init 46 = .ok (.sipush 256, 3) := by decide +kernel
theorem dX6_init_49 : decode cX6_init 49 = .ok (.newarray .int, 2) := by decide +kernel
theorem dX6_init_51 : decode cX6_init 51 = .ok (.putfield 25, 3) := by decide +kernel
theorem dX6_init_54 : decode cX6_init 54 = .ok (.aload_n 0, 1) := by decide +kernel
theorem dX6_init_55 : decode cX6_init 55 = .ok (.bipush 30, 2) := by decide +kernel
theorem dX6_init_57 : decode cX6_init 57 = .ok (.newarray .int, 2) := by decide +kernel
theorem dX6_init_59 : decode cX6_init 59 = .ok (.putfield 28, 3) := by decide +kernel
theorem dX6_init_62 : decode cX6_init 62 = .ok (.aload_n 0, 1) := by decide +kernel
theorem dX6_init_63 : decode cX6_init 63 = .ok (.iconst 4, 1) := by decide +kernel
theorem dX6_init_64 : decode cX6_init 64 = .ok (.newarray .int, 2) := by decide +kernel
theorem dX6_init_66 : decode cX6_init 66 = .ok (.dup, 1) := by decide +kernel
theorem dX6_init_67 : decode cX6_init 67 = .ok (.iconst 0, 1) := by decide +kernel
theorem dX6_init_68 : decode cX6_init 68 = .ok (.iconst (-1), 1) := by decide +kernel
theorem dX6_init_69 : decode cX6_init 69 = .ok (.iastore, 1) := by decide +kernel
theorem dX6_init_70 : decode cX6_init 70 = .ok (.dup, 1) := by decide +kernel
theorem dX6_init_71 : decode cX6_init 71 = .ok (.iconst 1, 1) := by decide +kernel
theorem dX6_init_72 : decode cX6_init 72 = .ok (.iconst (-1), 1) := by decide +kernel
theorem dX6_init_73 : decode cX6_init 73 = .ok (.iastore, 1) := by decide +kernel
theorem dX6_init_74 : decode cX6_init 74 = .ok (.dup, 1) := by decide +kernel
theorem dX6_init_75 : decode cX6_init 75 = .ok (.iconst 2, 1) := by decide +kernel
theorem dX6_init_76 : decode cX6_init 76 = .ok (.iconst (-1), 1) := by decide +kernel
theorem dX6_init_77 : decode cX6_init 77 = .ok (.iastore, 1) := by decide +kernel
theorem dX6_init_78 : decode cX6_init 78 = .ok (.dup, 1) := by decide +kernel
theorem dX6_init_79 : decode cX6_init 79 = .ok (.iconst 3, 1) := by decide +kernel
theorem dX6_init_80 : decode cX6_init 80 = .ok (.iconst (-1), 1) := by decide +kernel
theorem dX6_init_81 : decode cX6_init 81 = .ok (.iastore, 1) := by decide +kernel
theorem dX6_init_82 : decode cX6_init 82 = .ok (.putfield 31, 3) := by decide +kernel
theorem dX6_init_85 : decode cX6_init 85 = .ok (.aload_n 0, 1) := by decide +kernel
theorem dX6_init_86 : decode cX6_init 86 = .ok (.iconst 4, 1) := by decide +kernel
theorem dX6_init_87 : decode cX6_init 87 = .ok (.newarray .int, 2) := by decide +kernel
theorem dX6_init_89 : decode cX6_init 89 = .ok (.putfield 34, 3) := by decide +kernel
theorem dX6_init_92 : decode cX6_init 92 = .ok (.aload_n 0, 1) := by decide +kernel
theorem dX6_init_93 : decode cX6_init 93 = .ok (.sipush 160, 3) := by decide +kernel
theorem dX6_init_96 : decode cX6_init 96 = .ok (.newarray .int, 2) := by decide +kernel
theorem dX6_init_98 : decode cX6_init 98 = .ok (.putfield 37, 3) := by decide +kernel
theorem dX6_init_101 : decode cX6_init 101 = .ok (.aload_n 0, 1) := by decide +kernel
theorem dX6_init_102 : decode cX6_init 102 = .ok (.iconst 4, 1) := by decide +kernel
theorem dX6_init_103 : decode cX6_init 103 = .ok (.newarray .int, 2) := by decide +kernel
theorem dX6_init_105 : decode cX6_init 105 = .ok (.putfield 40, 3) := by decide +kernel
theorem dX6_init_108 : decode cX6_init 108 = .ok (.aload_n 0, 1) := by decide +kernel
theorem dX6_init_109 : decode cX6_init 109 = .ok (.iconst 4, 1) := by decide +kernel
theorem dX6_init_110 : decode cX6_init 110 = .ok (.newarray .int, 2) := by decide +kernel
theorem dX6_init_112 : decode cX6_init 112 = .ok (.putfield 43, 3) := by decide +kernel
theorem dX6_init_115 : decode cX6_init 115 = .ok (.aload_n 0, 1) := by decide +kernel
theorem dX6_init_116 : decode cX6_init 116 = .ok (.iconst 4, 1) := by decide +kernel
theorem dX6_init_117 : decode cX6_init 117 = .ok (.newarray .int, 2) := by decide +kernel
theorem dX6_init_119 : decode cX6_init 119 = .ok (.putfield 46, 3) := by decide +kernel
theorem dX6_init_122 : decode cX6_init 122 = .ok (.aload_n 0, 1) := by decide +kernel
theorem dX6_init_123 : decode cX6_init 123 = .ok (.bipush 30, 2) := by decide +kernel
theorem dX6_init_125 : decode cX6_init 125 = .ok (.newarray .int, 2) := by decide +kernel
theorem dX6_init_127 : decode cX6_init 127 = .ok (.putfield 49, 3) := by decide +kernel
theorem dX6_init_130 : decode cX6_init 130 = .ok (.aload_n 0, 1) := by decide +kernel
theorem dX6_init_131 : decode cX6_init 131 = .ok (.invokevirtual 52, 3) := by decide +kernel
theorem dX6_init_134 : decode cX6_init 134 = .ok (.aload_n 0, 1) := by decide +kernel
theorem dX6_init_135 : decode cX6_init 135 = .ok (.getfield 7, 3) := by decide +kernel
theorem dX6_init_138 : decode cX6_init 138 = .ok (.iconst 2, 1) := by decide +kernel
theorem dX6_init_139 : decode cX6_init 139 = .ok (.iconst 1, 1) := by decide +kernel
theorem dX6_init_140 : decode cX6_init 140 = .ok (.iastore, 1) := by decide +kernel
theorem dX6_init_141 : decode cX6_init 141 = .ok (.return_, 1) := by decide +kernel
set_option maxHeartbeats 4000000 in
set_option maxRecDepth 20000 in
theorem c_X6_init (l : Launch) (ad : Nat → Nat) (D : va_G) (cs : Nat → ClassId) : CN l yX6_init cX6_init 1 { frames := 1, cells := 14, slots := 888, locals := 30 } ad D cs 6 fs6 14 888 (fun g => wM cs g sM0) := by
  refine CN.of (by decide) (by decide) (fun p e s m args below meth c A h0 C hO hnm hr hlk => ?_)
  have C : Cx p s m args c cX6_init 1 RX6 ad D (tysW cs) A := C
  show VN p l e _ s m args below meth c _ D A 1 0 0 [(h0, .inr (6, [.null, .null, .null, .null, .int 0, .null, .int 0, .int 0, .int 0, .int 0, .int 0, .int 0, .null, .null, .int 0, .null, .null, .null, .null, .null, .null, .null, .int 0, .int 0, .int 0, .int 0, .int 0]))] 0 [(0, .ref h0)] []
  refine n_aload_n (pc := 0) C 0 dX6_init_0 rfl rfl ?_
  refine n_oi (pc := 1) C ml_RX6_1 (by decide) (by decide) (by decide) dX6_init_1 ?_
  refine n_aload_n (pc := 4) C 0 dX6_init_4 rfl rfl ?_
  refine n_bipush (pc := 5) C 48 dX6_init_5 (by decide) ?_
  refine n_new_int (pc := 7) C 48 rfl (by decide) (by decide) (by decide) dX6_init_7 (fun q1 => ?_)
  show VN p l e _ s m args below meth c _ D A 1 1 48 [(h0, .inr (6, [.null, .null, .null, .null, .int 0, .null, .int 0, .int 0, .int 0, .int 0, .int 0, .int 0, .null, .null, .int 0, .null, .null, .null, .null, .null, .null, .null, .int 0, .int 0, .int 0, .int 0, .int 0])), (q1, .inl (cs 0, 48, .inl (fun _ => 0)))] 9 [(0, .ref h0)] [.ref q1, .ref h0]
  refine n_putF (pc := 9) C (Cn := RX6) (T := TX6) (N := 27) (ci := 6) iw_6 tyX6 tyX6_ok nmX6 0 rfl rfl 0 (by decide) fl_RX6_7 rfl rfl hnm rfl rfl rfl rfl (Nat.le_of_ble_eq_true rfl) dX6_init_9 rfl ?_
  show VN p l e _ s m args below meth c _ D A 1 1 48 [(h0, .inr (6, [.ref q1, .null, .null, .null, .int 0, .null, .int 0, .int 0, .int 0, .int 0, .int 0, .int 0, .null, .null, .int 0, .null, .null, .null, .null, .null, .null, .null, .int 0, .int 0, .int 0, .int 0, .int 0])), (q1, .inl (cs 0, 48, .inl (fun _ => 0)))] 12 [(0, .ref h0)] []
  refine n_aload_n (pc := 12) C 0 dX6_init_12 rfl rfl ?_
  refine n_bipush (pc := 13) C 48 dX6_init_13 (by decide) ?_
  refine n_new_int (pc := 15) C 48 rfl (by decide) (by decide) (by decide) dX6_init_15 (fun q2 => ?_)
  show VN p l e _ s m args below meth c _ D A 1 2 96 [(h0, .inr (6, [.ref q1, .null, .null, .null, .int 0, .null, .int 0, .int 0, .int 0, .int 0, .int 0, .int 0, .null, .null, .int 0, .null, .null, .null, .null, .null, .null, .null, .int 0, .int 0, .int 0, .int 0, .int 0])), (q1, .inl (cs 0, 48, .inl (fun _ => 0))), (q2, .inl (cs 0, 48, .inl (fun _ => 0)))] 17 [(0, .ref h0)] [.ref q2, .ref h0]
  refine n_putF (pc := 17) C (Cn := RX6) (T := TX6) (N := 27) (ci := 6) iw_6 tyX6 tyX6_ok nmX6 0 rfl rfl 1 (by decide) fl_RX6_13 rfl rfl hnm rfl rfl rfl rfl (Nat.le_of_ble_eq_true rfl) dX6_init_17 rfl ?_
  show VN p l e _ s m args below meth c _ D A 1 2 96 [(h0, .inr (6, [.ref q1, .ref q2, .null, .null, .int 0, .null, .int 0, .int 0, .int 0, .int 0, .int 0, .int 0, .null, .null, .int 0, .null, .null, .null, .null, .null, .null, .null, .int 0, .int 0, .int 0, .int 0, .int 0])), (q1, .inl (cs 0, 48, .inl (fun _ => 0))), (q2, .inl (cs 0, 48, .inl (fun _ => 0)))] 20 [(0, .ref h0)] []
  refine n_aload_n (pc := 20) C 0 dX6_init_20 rfl rfl ?_
  refine n_bipush (pc := 21) C 48 dX6_init_21 (by decide) ?_
  refine n_new_int (pc := 23) C 48 rfl (by decide) (by decide) (by decide) dX6_init_23 (fun q3 => ?_)
  show VN p l e _ s m args below meth c _ D A 1 3 144 [(h0, .inr (6, [.ref q1, .ref q2, .null, .null, .int 0, .null, .int 0, .int 0, .int 0, .int 0, .int 0, .int 0, .null, .null, .int 0, .null, .null, .null, .null, .null, .null, .null, .int 0, .int 0, .int 0, .int 0, .int 0])), (q1, .inl (cs 0, 48, .inl (fun _ => 0))), (q2, .inl (cs 0, 48, .inl (fun _ => 0))), (q3, .inl (cs 0, 48, .inl (fun _ => 0)))] 25 [(0, .ref h0)] [.ref q3, .ref h0]
  refine n_putF (pc := 25) C (Cn := RX6) (T := TX6) (N := 27) (ci := 6) iw_6 tyX6 tyX6_ok nmX6 0 rfl rfl 2 (by decide) fl_RX6_16 rfl rfl hnm rfl rfl rfl rfl (Nat.le_of_ble_eq_true rfl) dX6_init_25 rfl ?_
  show VN p l e _ s m args below meth c _ D A 1 3 144 [(h0, .inr (6, [.ref q1, .ref q2, .ref q3, .null, .int 0, .null, .int 0, .int 0, .int 0, .int 0, .int 0, .int 0, .null, .null, .int 0, .null, .null, .null, .null, .null, .null, .null, .int 0, .int 0, .int 0, .int 0, .int 0])), (q1, .inl (cs 0, 48, .inl (fun _ => 0))), (q2, .inl (cs 0, 48, .inl (fun _ => 0))), (q3, .inl (cs 0, 48, .inl (fun _ => 0)))] 28 [(0, .ref h0)] []
  refine n_aload_n (pc := 28) C 0 dX6_init_28 rfl rfl ?_
  refine n_bipush (pc := 29) C 48 dX6_init_29 (by decide) ?_
  refine n_new_int (pc := 31) C 48 rfl (by decide) (by decide) (by decide) dX6_init_31 (fun q4 => ?_)
  show VN p l e _ s m args below meth c _ D A 1 4 192 [(h0, .inr (6, [.ref q1, .ref q2, .ref q3, .null, .int 0, .null, .int 0, .int 0, .int 0, .int 0, .int 0, .int 0, .null, .null, .int 0, .null, .null, .null, .null, .null, .null, .null, .int 0, .int 0, .int 0, .int 0, .int 0])), (q1, .inl (cs 0, 48, .inl (fun _ => 0))), (q2, .inl (cs 0, 48, .inl (fun _ => 0))), (q3, .inl (cs 0, 48, .inl (fun _ => 0))), (q4, .inl (cs 0, 48, .inl (fun _ => 0)))] 33 [(0, .ref h0)] [.ref q4, .ref h0]
  refine n_putF (pc := 33) C (Cn := RX6) (T := TX6) (N := 27) (ci := 6) iw_6 tyX6 tyX6_ok nmX6 0 rfl rfl 3 (by decide) fl_RX6_19 rfl rfl hnm rfl rfl rfl rfl (Nat.le_of_ble_eq_true rfl) dX6_init_33 rfl ?_
  show VN p l e _ s m args below meth c _ D A 1 4 192 [(h0, .inr (6, [.ref q1, .ref q2, .ref q3, .ref q4, .int 0, .null, .int 0, .int 0, .int 0, .int 0, .int 0, .int 0, .null, .null, .int 0, .null, .null, .null, .null, .null, .null, .null, .int 0, .int 0, .int 0, .int 0, .int 0])), (q1, .inl (cs 0, 48, .inl (fun _ => 0))), (q2, .inl (cs 0, 48, .inl (fun _ => 0))), (q3, .inl (cs 0, 48, .inl (fun _ => 0))), (q4, .inl (cs 0, 48, .inl (fun _ => 0)))] 36 [(0, .ref h0)] []
  refine n_aload_n (pc := 36) C 0 dX6_init_36 rfl rfl ?_
  refine n_sipush (pc := 37) C 200 dX6_init_37 (by decide) ?_
  refine n_new_int (pc := 40) C 200 rfl (by decide) (by decide) (by decide) dX6_init_40 (fun q5 => ?_)
  show VN p l e _ s m args below meth c _ D A 1 5 392 [(h0, .inr (6, [.ref q1, .ref q2, .ref q3, .ref q4, .int 0, .null, .int 0, .int 0, .int 0, .int 0, .int 0, .int 0, .null, .null, .int 0, .null, .null, .null, .null, .null, .null, .null, .int 0, .int 0, .int 0, .int 0, .int 0])), (q1, .inl (cs 0, 48, .inl (fun _ => 0))), (q2, .inl (cs 0, 48, .inl (fun _ => 0))), (q3, .inl (cs 0, 48, .inl (fun _ => 0))), (q4, .inl (cs 0, 48, .inl (fun _ => 0))), (q5, .inl (cs 0, 200, .inl (fun _ => 0)))] 42 [(0, .ref h0)] [.ref q5, .ref h0]
  refine n_putF (pc := 42) C (Cn := RX6) (T := TX6) (N := 27) (ci := 6) iw_6 tyX6 tyX6_ok nmX6 0 rfl rfl 5 (by decide) fl_RX6_22 rfl rfl hnm rfl rfl rfl rfl (Nat.le_of_ble_eq_true rfl) dX6_init_42 rfl ?_
  show VN p l e _ s m args below meth c _ D A 1 5 392 [(h0, .inr (6, [.ref q1, .ref q2, .ref q3, .ref q4, .int 0, .ref q5, .int 0, .int 0, .int 0, .int 0, .int 0, .int 0, .null, .null, .int 0, .null, .null, .null, .null, .null, .null, .null, .int 0, .int 0, .int 0, .int 0, .int 0])), (q1, .inl (cs 0, 48, .inl (fun _ => 0))), (q2, .inl (cs 0, 48, .inl (fun _ => 0))), (q3, .inl (cs 0, 48, .inl (fun _ => 0))), (q4, .inl (cs 0, 48, .inl (fun _ => 0))), (q5, .inl (cs 0, 200, .inl (fun _ => 0)))] 45 [(0, .ref h0)] []
  refine n_aload_n (pc := 45) C 0 dX6_init_45 rfl rfl ?_
  refine n_sipush (pc := 46) C 256 dX6_init_46 (by decide) ?_
  refine n_new_int (pc := 49) C 256 rfl (by decide) (by decide) (by decide) dX6_init_49 (fun q6 => ?_)
  show VN p l e _ s m args below meth c _ D A 1 6 648 [(h0, .inr (6, [.ref q1, .ref q2, .ref q3, .ref q4, .int 0, .ref q5, .int 0, .int 0, .int 0, .int 0, .int 0, .int 0, .null, .null, .int 0, .null, .null, .null, .null, .null, .null, .null, .int 0, .int 0, .int 0, .int 0, .int 0])), (q1, .inl (cs 0, 48, .inl (fun _ => 0))), (q2, .inl (cs 0, 48, .inl (fun _ => 0))), (q3, .inl (cs 0, 48, .inl (fun _ => 0))), (q4, .inl (cs 0, 48, .inl (fun _ => 0))), (q5, .inl (cs 0, 200, .inl (fun _ => 0))), (q6, .inl (cs 0, 256, .inl (fun _ => 0)))] 51 [(0, .ref h0)] [.ref q6, .ref h0]
  refine n_putF (pc := 51) C (Cn := RX6) (T := TX6) (N := 27) (ci := 6) iw_6 tyX6 tyX6_ok nmX6 0 rfl rfl 12 (by decide) fl_RX6_25 rfl rfl hnm rfl rfl rfl rfl (Nat.le_of_ble_eq_true rfl) dX6_init_51 rfl ?_
  show VN p l e _ s m args below meth c _ D A 1 6 648 [(h0, .inr (6, [.ref q1, .ref q2, .ref q3, .ref q4, .int 0, .ref q5, .int 0, .int 0, .int 0, .int 0, .int 0, .int 0, .ref q6, .null, .int 0, .null, .null, .null, .null, .null, .null, .null, .int 0, .int 0, .int 0, .int 0, .int 0])), (q1, .inl (cs 0, 48, .inl (fun _ => 0))), (q2, .inl (cs 0, 48, .inl (fun _ => 0))), (q3, .inl (cs 0, 48, .inl (fun _ => 0))), (q4, .inl (cs 0, 48, .inl (fun _ => 0))), (q5, .inl (cs 0, 200, .inl (fun _ => 0))), (q6, .inl (cs 0, 256, .inl (fun _ => 0)))] 54 [(0, .ref h0)] []
  refine n_aload_n (pc := 54) C 0 dX6_init_54 rfl rfl ?_
  refine n_bipush (pc := 55) C 30 dX6_init_55 (by decide) ?_
  refine n_new_int (pc := 57) C 30 rfl (by decide) (by decide) (by decide) dX6_init_57 (fun q7 => ?_)
  show VN p l e _ s m args below meth c _ D A 1 7 678 [(h0, .inr (6, [.ref q1, .ref q2, .ref q3, .ref q4, .int 0, .ref q5, .int 0, .int 0, .int 0, .int 0, .int 0, .int 0, .ref q6, .null, .int 0, .null, .null, .null, .null, .null, .null, .null, .int 0, .int 0, .int 0, .int 0, .int 0])), (q1, .inl (cs 0, 48, .inl (fun _ => 0))), (q2, .inl (cs 0, 48, .inl (fun _ => 0))), (q3, .inl (cs 0, 48, .inl (fun _ => 0))), (q4, .inl (cs 0, 48, .inl (fun _ => 0))), (q5, .inl (cs 0, 200, .inl (fun _ => 0))), (q6, .inl (cs 0, 256, .inl (fun _ => 0))), (q7, .inl (cs 0, 30, .inl (fun _ => 0)))] 59 [(0, .ref h0)] [.ref q7, .ref h0]
  refine n_putF (pc := 59) C (Cn := RX6) (T := TX6) (N := 27) (ci := 6) iw_6 tyX6 tyX6_ok nmX6 0 rfl rfl 13 (by decide) fl_RX6_28 rfl rfl hnm rfl rfl rfl rfl (Nat.le_of_ble_eq_true rfl) dX6_init_59 rfl ?_
  show VN p l e _ s m args below meth c _ D A 1 7 678 [(h0, .inr (6, [.ref q1, .ref q2, .ref q3, .ref q4, .int 0, .ref q5, .int 0, .int 0, .int 0, .int 0, .int 0, .int 0, .ref q6, .ref q7, .int 0, .null, .null, .null, .null, .null, .null, .null, .int 0, .int 0, .int 0, .int 0, .int 0])), (q1, .inl (cs 0, 48, .inl (fun _ => 0))), (q2, .inl (cs 0, 48, .inl (fun _ => 0))), (q3, .inl (cs 0, 48, .inl (fun _ => 0))), (q4, .inl (cs 0, 48, .inl (fun _ => 0))), (q5, .inl (cs 0, 200, .inl (fun _ => 0))), (q6, .inl (cs 0, 256, .inl (fun _ => 0))), (q7, .inl (cs 0, 30, .inl (fun _ => 0)))] 62 [(0, .ref h0)] []
  refine n_aload_n (pc := 62) C 0 dX6_init_62 rfl rfl ?_
  refine n_iconst (pc := 63) C 4 dX6_init_63 (by decide) ?_
  refine n_new_int (pc := 64) C 4 rfl (by decide) (by decide) (by decide) dX6_init_64 (fun q8 => ?_)
  show VN p l e _ s m args below meth c _ D A 1 8 682 [(h0, .inr (6, [.ref q1, .ref q2, .ref q3, .ref q4, .int 0, .ref q5, .int 0, .int 0, .int 0, .int 0, .int 0, .int 0, .ref q6, .ref q7, .int 0, .null, .null, .null, .null, .null, .null, .null, .int 0, .int 0, .int 0, .int 0, .int 0])), (q1, .inl (cs 0, 48, .inl (fun _ => 0))), (q2, .inl (cs 0, 48, .inl (fun _ => 0))), (q3, .inl (cs 0, 48, .inl (fun _ => 0))), (q4, .inl (cs 0, 48, .inl (fun _ => 0))), (q5, .inl (cs 0, 200, .inl (fun _ => 0))), (q6, .inl (cs 0, 256, .inl (fun _ => 0))), (q7, .inl (cs 0, 30, .inl (fun _ => 0))), (q8, .inl (cs 0, 4, .inl (fun _ => 0)))] 66 [(0, .ref h0)] [.ref q8, .ref h0]
  refine n_dup (pc := 66) C dX6_init_66 rfl ?_
  refine n_iconst (pc := 67) C 0 dX6_init_67 (by decide) ?_
  refine n_iconst (pc := 68) C (-1) dX6_init_68 (by decide) ?_
  refine n_iast (pc := 69) C 8 rfl 0 rfl (by decide) (by decide) dX6_init_69 rfl ?_
  show VN p l e _ s m args below meth c _ D A 1 8 682 [(h0, .inr (6, [.ref q1, .ref q2, .ref q3, .ref q4, .int 0, .ref q5, .int 0, .int 0, .int 0, .int 0, .int 0, .int 0, .ref q6, .ref q7, .int 0, .null, .null, .null, .null, .null, .null, .null, .int 0, .int 0, .int 0, .int 0, .int 0])), (q1, .inl (cs 0, 48, .inl (fun _ => 0))), (q2, .inl (cs 0, 48, .inl (fun _ => 0))), (q3, .inl (cs 0, 48, .inl (fun _ => 0))), (q4, .inl (cs 0, 48, .inl (fun _ => 0))), (q5, .inl (cs 0, 200, .inl (fun _ => 0))), (q6, .inl (cs 0, 256, .inl (fun _ => 0))), (q7, .inl (cs 0, 30, .inl (fun _ => 0))), (q8, .inl (cs 0, 4, .inl (upd (fun _ => 0) 0 (-1))))] 70 [(0, .ref h0)] [.ref q8, .ref h0]
  refine n_dup (pc := 70) C dX6_init_70 rfl ?_
  refine n_iconst (pc := 71) C 1 dX6_init_71 (by decide) ?_
  refine n_iconst (pc := 72) C (-1) dX6_init_72 (by decide) ?_
  refine n_iast (pc := 73) C 8 rfl 1 rfl (by decide) (by decide) dX6_init_73 rfl ?_
  show VN p l e _ s m args below meth c _ D A 1 8 682 [(h0, .inr (6, [.ref q1, .ref q2, .ref q3, .ref q4, .int 0, .ref q5, .int 0, .int 0, .int 0, .int 0, .int 0, .int 0, .ref q6, .ref q7, .int 0, .null, .null, .null, .null, .null, .null, .null, .int 0, .int 0, .int 0, .int 0, .int 0])), (q1, .inl (cs 0, 48, .inl (fun _ => 0))), (q2, .inl (cs 0, 48, .inl (fun _ => 0))), (q3, .inl (cs 0, 48, .inl (fun _ => 0))), (q4, .inl (cs 0, 48, .inl (fun _ => 0))), (q5, .inl (cs 0, 200, .inl (fun _ => 0))), (q6, .inl (cs 0, 256, .inl (fun _ => 0))), (q7, .inl (cs 0, 30, .inl (fun _ => 0))), (q8, .inl (cs 0, 4, .inl (upd (upd (fun _ => 0) 0 (-1)) 1 (-1))))] 74 [(0, .ref h0)] [.ref q8, .ref h0]
  refine n_dup (pc := 74) C dX6_init_74 rfl ?_
  refine n_iconst (pc := 75) C 2 dX6_init_75 (by decide) ?_
  refine n_iconst (pc := 76) C (-1) dX6_init_76 (by decide) ?_
  refine n_iast (pc := 77) C 8 rfl 2 rfl (by decide) (by decide) dX6_init_77 rfl ?_
  show VN p l e _ s m args below meth c _ D A 1 8 682 [(h0, .inr (6, [.ref q1, .ref q2, .ref q3, .ref q4, .int 0, .ref q5, .int 0, .int 0, .int 0, .int 0, .int 0, .int 0, .ref q6, .ref q7, .int 0, .null, .null, .null, .null, .null, .null, .null, .int 0, .int 0, .int 0, .int 0, .int 0])), (q1, .inl (cs 0, 48, .inl (fun _ => 0))), (q2, .inl (cs 0, 48, .inl (fun _ => 0))), (q3, .inl (cs 0, 48, .inl (fun _ => 0))), (q4, .inl (cs 0, 48, .inl (fun _ => 0))), (q5, .inl (cs 0, 200, .inl (fun _ => 0))), (q6, .inl (cs 0, 256, .inl (fun _ => 0))), (q7, .inl (cs 0, 30, .inl (fun _ => 0))), (q8, .inl (cs 0, 4, .inl (upd (upd (upd (fun _ => 0) 0 (-1)) 1 (-1)) 2 (-1))))] 78 [(0, .ref h0)] [.ref q8, .ref h0]
  refine n_dup (pc := 78) C dX6_init_78 rfl ?_
  refine n_iconst (pc := 79) C 3 dX6_init_79 (by decide) ?_
  refine n_iconst (pc := 80) C (-1) dX6_init_80 (by decide) ?_
  refine n_iast (pc := 81) C 8 rfl 3 rfl (by decide) (by decide) dX6_init_81 rfl ?_
  show VN p l e _ s m args below meth c _ D A 1 8 682 [(h0, .inr (6, [.ref q1, .ref q2, .ref q3, .ref q4, .int 0, .ref q5, .int 0, .int 0, .int 0, .int 0, .int 0, .int 0, .ref q6, .ref q7, .int 0, .null, .null, .null, .null, .null, .null, .null, .int 0, .int 0, .int 0, .int 0, .int 0])), (q1, .inl (cs 0, 48, .inl (fun _ => 0))), (q2, .inl (cs 0, 48, .inl (fun _ => 0))), (q3, .inl (cs 0, 48, .inl (fun _ => 0))), (q4, .inl (cs 0, 48, .inl (fun _ => 0))), (q5, .inl (cs 0, 200, .inl (fun _ => 0))), (q6, .inl (cs 0, 256, .inl (fun _ => 0))), (q7, .inl (cs 0, 30, .inl (fun _ => 0))), (q8, .inl (cs 0, 4, .inl (upd (upd (upd (upd (fun _ => 0) 0 (-1)) 1 (-1)) 2 (-1)) 3 (-1))))] 82 [(0, .ref h0)] [.ref q8, .ref h0]
  refine n_putF (pc := 82) C (Cn := RX6) (T := TX6) (N := 27) (ci := 6) iw_6 tyX6 tyX6_ok nmX6 0 rfl rfl 15 (by decide) fl_RX6_31 rfl rfl hnm rfl rfl rfl rfl (Nat.le_of_ble_eq_true rfl) dX6_init_82 rfl ?_
  show VN p l e _ s m args below meth c _ D A 1 8 682 [(h0, .inr (6, [.ref q1, .ref q2, .ref q3, .ref q4, .int 0, .ref q5, .int 0, .int 0, .int 0, .int 0, .int 0, .int 0, .ref q6, .ref q7, .int 0, .ref q8, .null, .null, .null, .null, .null, .null, .int 0, .int 0, .int 0, .int 0, .int 0])), (q1, .inl (cs 0, 48, .inl (fun _ => 0))), (q2, .inl (cs 0, 48, .inl (fun _ => 0))), (q3, .inl (cs 0, 48, .inl (fun _ => 0))), (q4, .inl (cs 0, 48, .inl (fun _ => 0))), (q5, .inl (cs 0, 200, .inl (fun _ => 0))), (q6, .inl (cs 0, 256, .inl (fun _ => 0))), (q7, .inl (cs 0, 30, .inl (fun _ => 0))), (q8, .inl (cs 0, 4, .inl (upd (upd (upd (upd (fun _ => 0) 0 (-1)) 1 (-1)) 2 (-1)) 3 (-1))))] 85 [(0, .ref h0)] []
  refine n_aload_n (pc := 85) C 0 dX6_init_85 rfl rfl ?_
  refine n_iconst (pc := 86) C 4 dX6_init_86 (by decide) ?_
  refine n_new_int (pc := 87) C 4 rfl (by decide) (by decide) (by decide) dX6_init_87 (fun q9 => ?_)
  show VN p l e _ s m args below meth c _ D A 1 9 686 [(h0, .inr (6, [.ref q1, .ref q2, .ref q3, .ref q4, .int 0, .ref q5, .int 0, .int 0, .int 0, .int 0, .int 0, .int 0, .ref q6, .ref q7, .int 0, .ref q8, .null, .null, .null, .null, .null, .null, .int 0, .int 0, .int 0, .int 0, .int 0])), (q1, .inl (cs 0, 48, .inl (fun _ => 0))), (q2, .inl (cs 0, 48, .inl (fun _ => 0))), (q3, .inl (cs 0, 48, .inl (fun _ => 0))), (q4, .inl (cs 0, 48, .inl (fun _ => 0))), (q5, .inl (cs 0, 200, .inl (fun _ => 0))), (q6, .inl (cs 0, 256, .inl (fun _ => 0))), (q7, .inl (cs 0, 30, .inl (fun _ => 0))), (q8, .inl (cs 0, 4, .inl (upd (upd (upd (upd (fun _ => 0) 0 (-1)) 1 (-1)) 2 (-1)) 3 (-1)))), (q9, .inl (cs 0, 4, .inl (fun _ => 0)))] 89 [(0, .ref h0)] [.ref q9, .ref h0]
  refine n_putF (pc := 89) C (Cn := RX6) (T := TX6) (N := 27) (ci := 6) iw_6 tyX6 tyX6_ok nmX6 0 rfl rfl 16 (by decide) fl_RX6_34 rfl rfl hnm rfl rfl rfl rfl (Nat.le_of_ble_eq_true rfl) dX6_init_89 rfl ?_
  show VN p l e _ s m args below meth c _ D A 1 9 686 [(h0, .inr (6, [.ref q1, .ref q2, .ref q3, .ref q4, .int 0, .ref q5, .int 0, .int 0, .int 0, .int 0, .int 0, .int 0, .ref q6, .ref q7, .int 0, .ref q8, .ref q9, .null, .null, .null, .null, .null, .int 0, .int 0, .int 0, .int 0, .int 0])), (q1, .inl (cs 0, 48, .inl (fun _ => 0))), (q2, .inl (cs 0, 48, .inl (fun _ => 0))), (q3, .inl (cs 0, 48, .inl (fun _ => 0))), (q4, .inl (cs 0, 48, .inl (fun _ => 0))), (q5, .inl (cs 0, 200, .inl (fun _ => 0))), (q6, .inl (cs 0, 256, .inl (fun _ => 0))), (q7, .inl (cs 0, 30, .inl (fun _ => 0))), (q8, .inl (cs 0, 4, .inl (upd (upd (upd (upd (fun _ => 0) 0 (-1)) 1 (-1)) 2 (-1)) 3 (-1)))), (q9, .inl (cs 0, 4, .inl (fun _ => 0)))] 92 [(0, .ref h0)] []
  refine n_aload_n (pc := 92) C 0 dX6_init_92 rfl rfl ?_
  refine n_sipush (pc := 93) C 160 dX6_init_93 (by decide) ?_
  refine n_new_int (pc := 96) C 160 rfl (by decide) (by decide) (by decide) dX6_init_96 (fun q10 => ?_)
  show VN p l e _ s m args below meth c _ D A 1 10 846 [(h0, .inr (6, [.ref q1, .ref q2, .ref q3, .ref q4, .int 0, .ref q5, .int 0, .int 0, .int 0, .int 0, .int 0, .int 0, .ref q6, .ref q7, .int 0, .ref q8, .ref q9, .null, .null, .null, .null, .null, .int 0, .int 0, .int 0, .int 0, .int 0])), (q1, .inl (cs 0, 48, .inl (fun _ => 0))), (q2, .inl (cs 0, 48, .inl (fun _ => 0))), (q3, .inl (cs 0, 48, .inl (fun _ => 0))), (q4, .inl (cs 0, 48, .inl (fun _ => 0))), (q5, .inl (cs 0, 200, .inl (fun _ => 0))), (q6, .inl (cs 0, 256, .inl (fun _ => 0))), (q7, .inl (cs 0, 30, .inl (fun _ => 0))), (q8, .inl (cs 0, 4, .inl (upd (upd (upd (upd (fun _ => 0) 0 (-1)) 1 (-1)) 2 (-1)) 3 (-1)))), (q9, .inl (cs 0, 4, .inl (fun _ => 0))), (q10, .inl (cs 0, 160, .inl (fun _ => 0)))] 98 [(0, .ref h0)] [.ref q10, .ref h0]
  refine n_putF (pc := 98) C (Cn := RX6) (T := TX6) (N := 27) (ci := 6) iw_6 tyX6 tyX6_ok nmX6 0 rfl rfl 17 (by decide) fl_RX6_37 rfl rfl hnm rfl rfl rfl rfl (Nat.le_of_ble_eq_true rfl) dX6_init_98 rfl ?_
  show VN p l e _ s m args below meth c _ D A 1 10 846 [(h0, .inr (6, [.ref q1, .ref q2, .ref q3, .ref q4, .int 0, .ref q5, .int 0, .int 0, .int 0, .int 0, .int 0, .int 0, .ref q6, .ref q7, .int 0, .ref q8, .ref q9, .ref q10, .null, .null, .null, .null, .int 0, .int 0, .int 0, .int 0, .int 0])), (q1, .inl (cs 0, 48, .inl (fun _ => 0))), (q2, .inl (cs 0, 48, .inl (fun _ => 0))), (q3, .inl (cs 0, 48, .inl (fun _ => 0))), (q4, .inl (cs 0, 48, .inl (fun _ => 0))), (q5, .inl (cs 0, 200, .inl (fun _ => 0))), (q6, .inl (cs 0, 256, .inl (fun _ => 0))), (q7, .inl (cs 0, 30, .inl (fun _ => 0))), (q8, .inl (cs 0, 4, .inl (upd (upd (upd (upd (fun _ => 0) 0 (-1)) 1 (-1)) 2 (-1)) 3 (-1)))), (q9, .inl (cs 0, 4, .inl (fun _ => 0))), (q10, .inl (cs 0, 160, .inl (fun _ => 0)))] 101 [(0, .ref h0)] []
  refine n_aload_n (pc := 101) C 0 dX6_init_101 rfl rfl ?_
  refine n_iconst (pc := 102) C 4 dX6_init_102 (by decide) ?_
  refine n_new_int (pc := 103) C 4 rfl (by decide) (by decide) (by decide) dX6_init_103 (fun q11 => ?_)
  show VN p l e _ s m args below meth c _ D A 1 11 850 [(h0, .inr (6, [.ref q1, .ref q2, .ref q3, .ref q4, .int 0, .ref q5, .int 0, .int 0, .int 0, .int 0, .int 0, .int 0, .ref q6, .ref q7, .int 0, .ref q8, .ref q9, .ref q10, .null, .null, .null, .null, .int 0, .int 0, .int 0, .int 0, .int 0])), (q1, .inl (cs 0, 48, .inl (fun _ => 0))), (q2, .inl (cs 0, 48, .inl (fun _ => 0))), (q3, .inl (cs 0, 48, .inl (fun _ => 0))), (q4, .inl (cs 0, 48, .inl (fun _ => 0))), (q5, .inl (cs 0, 200, .inl (fun _ => 0))), (q6, .inl (cs 0, 256, .inl (fun _ => 0))), (q7, .inl (cs 0, 30, .inl (fun _ => 0))), (q8, .inl (cs 0, 4, .inl (upd (upd (upd (upd (fun _ => 0) 0 (-1)) 1 (-1)) 2 (-1)) 3 (-1)))), (q9, .inl (cs 0, 4, .inl (fun _ => 0))), (q10, .inl (cs 0, 160, .inl (fun _ => 0))), (q11, .inl (cs 0, 4, .inl (fun _ => 0)))] 105 [(0, .ref h0)] [.ref q11, .ref h0]
  refine n_putF (pc := 105) C (Cn := RX6) (T := TX6) (N := 27) (ci := 6) iw_6 tyX6 tyX6_ok nmX6 0 rfl rfl 18 (by decide) fl_RX6_40 rfl rfl hnm rfl rfl rfl rfl (Nat.le_of_ble_eq_true rfl) dX6_init_105 rfl ?_
  show VN p l e _ s m args below meth c _ D A 1 11 850 [(h0, .inr (6, [.ref q1, .ref q2, .ref q3, .ref q4, .int 0, .ref q5, .int 0, .int 0, .int 0, .int 0, .int 0, .int 0, .ref q6, .ref q7, .int 0, .ref q8, .ref q9, .ref q10, .ref q11, .null, .null, .null, .int 0, .int 0, .int 0, .int 0, .int 0])), (q1, .inl (cs 0, 48, .inl (fun _ => 0))), (q2, .inl (cs 0, 48, .inl (fun _ => 0))), (q3, .inl (cs 0, 48, .inl (fun _ => 0))), (q4, .inl (cs 0, 48, .inl (fun _ => 0))), (q5, .inl (cs 0, 200, .inl (fun _ => 0))), (q6, .inl (cs 0, 256, .inl (fun _ => 0))), (q7, .inl (cs 0, 30, .inl (fun _ => 0))), (q8, .inl (cs 0, 4, .inl (upd (upd (upd (upd (fun _ => 0) 0 (-1)) 1 (-1)) 2 (-1)) 3 (-1)))), (q9, .inl (cs 0, 4, .inl (fun _ => 0))), (q10, .inl (cs 0, 160, .inl (fun _ => 0))), (q11, .inl (cs 0, 4, .inl (fun _ => 0)))] 108 [(0, .ref h0)] []
  refine n_aload_n (pc := 108) C 0 dX6_init_108 rfl rfl ?_
  refine n_iconst (pc := 109) C 4 dX6_init_109 (by decide) ?_
  refine n_new_int (pc := 110) C 4 rfl (by decide) (by decide) (by decide) dX6_init_110 (fun q12 => ?_)
  show VN p l e _ s m args below meth c _ D A 1 12 854 [(h0, .inr (6, [.ref q1, .ref q2, .ref q3, .ref q4, .int 0, .ref q5, .int 0, .int 0, .int 0, .int 0, .int 0, .int 0, .ref q6, .ref q7, .int 0, .ref q8, .ref q9, .ref q10, .ref q11, .null, .null, .null, .int 0, .int 0, .int 0, .int 0, .int 0])), (q1, .inl (cs 0, 48, .inl (fun _ => 0))), (q2, .inl (cs 0, 48, .inl (fun _ => 0))), (q3, .inl (cs 0, 48, .inl (fun _ => 0))), (q4, .inl (cs 0, 48, .inl (fun _ => 0))), (q5, .inl (cs 0, 200, .inl (fun _ => 0))), (q6, .inl (cs 0, 256, .inl (fun _ => 0))), (q7, .inl (cs 0, 30, .inl (fun _ => 0))), (q8, .inl (cs 0, 4, .inl (upd (upd (upd (upd (fun _ => 0) 0 (-1)) 1 (-1)) 2 (-1)) 3 (-1)))), (q9, .inl (cs 0, 4, .inl (fun _ => 0))), (q10, .inl (cs 0, 160, .inl (fun _ => 0))), (q11, .inl (cs 0, 4, .inl (fun _ => 0))), (q12, .inl (cs 0, 4, .inl (fun _ => 0)))] 112 [(0, .ref h0)] [.ref q12, .ref h0]
  refine n_putF (pc := 112) C (Cn := RX6) (T := TX6) (N := 27) (ci := 6) iw_6 tyX6 tyX6_ok nmX6 0 rfl rfl 19 (by decide) fl_RX6_43 rfl rfl hnm rfl rfl rfl rfl (Nat.le_of_ble_eq_true rfl) dX6_init_112 rfl ?_
  show VN p l e _ s m args below meth c _ D A 1 12 854 [(h0, .inr (6, [.ref q1, .ref q2, .ref q3, .ref q4, .int 0, .ref q5, .int 0, .int 0, .int 0, .int 0, .int 0, .int 0, .ref q6, .ref q7, .int 0, .ref q8, .ref q9, .ref q10, .ref q11, .ref q12, .null, .null, .int 0, .int 0, .int 0, .int 0, .int 0])), (q1, .inl (cs 0, 48, .inl (fun _ => 0))), (q2, .inl (cs 0, 48, .inl (fun _ => 0))), (q3, .inl (cs 0, 48, .inl (fun _ => 0))), (q4, .inl (cs 0, 48, .inl (fun _ => 0))), (q5, .inl (cs 0, 200, .inl (fun _ => 0))), (q6, .inl (cs 0, 256, .inl (fun _ => 0))), (q7, .inl (cs 0, 30, .inl (fun _ => 0))), (q8, .inl (cs 0, 4, .inl (upd (upd (upd (upd (fun _ => 0) 0 (-1)) 1 (-1)) 2 (-1)) 3 (-1)))), (q9, .inl (cs 0, 4, .inl (fun _ => 0))), (q10, .inl (cs 0, 160, .inl (fun _ => 0))), (q11, .inl (cs 0, 4, .inl (fun _ => 0))), (q12, .inl (cs 0, 4, .inl (fun _ => 0)))] 115 [(0, .ref h0)] []
  refine n_aload_n (pc := 115) C 0 dX6_init_115 rfl rfl ?_
  refine n_iconst (pc := 116) C 4 dX6_init_116 (by decide) ?_
  refine n_new_int (pc := 117) C 4 rfl (by decide) (by decide) (by decide) dX6_init_117 (fun q13 => ?_)
  show VN p l e _ s m args below meth c _ D A 1 13 858 [(h0, .inr (6, [.ref q1, .ref q2, .ref q3, .ref q4, .int 0, .ref q5, .int 0, .int 0, .int 0, .int 0, .int 0, .int 0, .ref q6, .ref q7, .int 0, .ref q8, .ref q9, .ref q10, .ref q11, .ref q12, .null, .null, .int 0, .int 0, .int 0, .int 0, .int 0])), (q1, .inl (cs 0, 48, .inl (fun _ => 0))), (q2, .inl (cs 0, 48, .inl (fun _ => 0))), (q3, .inl (cs 0, 48, .inl (fun _ => 0))), (q4, .inl (cs 0, 48, .inl (fun _ => 0))), (q5, .inl (cs 0, 200, .inl (fun _ => 0))), (q6, .inl (cs 0, 256, .inl (fun _ => 0))), (q7, .inl (cs 0, 30, .inl (fun _ => 0))), (q8, .inl (cs 0, 4, .inl (upd (upd (upd (upd (fun _ => 0) 0 (-1)) 1 (-1)) 2 (-1)) 3 (-1)))), (q9, .inl (cs 0, 4, .inl (fun _ => 0))), (q10, .inl (cs 0, 160, .inl (fun _ => 0))), (q11, .inl (cs 0, 4, .inl (fun _ => 0))), (q12, .inl (cs 0, 4, .inl (fun _ => 0))), (q13, .inl (cs 0, 4, .inl (fun _ => 0)))] 119 [(0, .ref h0)] [.ref q13, .ref h0]
  refine n_putF (pc := 119) C (Cn := RX6) (T := TX6) (N := 27) (ci := 6) iw_6 tyX6 tyX6_ok nmX6 0 rfl rfl 20 (by decide) fl_RX6_46 rfl rfl hnm rfl rfl rfl rfl (Nat.le_of_ble_eq_true rfl) dX6_init_119 rfl ?_
  show VN p l e _ s m args below meth c _ D A 1 13 858 [(h0, .inr (6, [.ref q1, .ref q2, .ref q3, .ref q4, .int 0, .ref q5, .int 0, .int 0, .int 0, .int 0, .int 0, .int 0, .ref q6, .ref q7, .int 0, .ref q8, .ref q9, .ref q10, .ref q11, .ref q12, .ref q13, .null, .int 0, .int 0, .int 0, .int 0, .int 0])), (q1, .inl (cs 0, 48, .inl (fun _ => 0))), (q2, .inl (cs 0, 48, .inl (fun _ => 0))), (q3, .inl (cs 0, 48, .inl (fun _ => 0))), (q4, .inl (cs 0, 48, .inl (fun _ => 0))), (q5, .inl (cs 0, 200, .inl (fun _ => 0))), (q6, .inl (cs 0, 256, .inl (fun _ => 0))), (q7, .inl (cs 0, 30, .inl (fun _ => 0))), (q8, .inl (cs 0, 4, .inl (upd (upd (upd (upd (fun _ => 0) 0 (-1)) 1 (-1)) 2 (-1)) 3 (-1)))), (q9, .inl (cs 0, 4, .inl (fun _ => 0))), (q10, .inl (cs 0, 160, .inl (fun _ => 0))), (q11, .inl (cs 0, 4, .inl (fun _ => 0))), (q12, .inl (cs 0, 4, .inl (fun _ => 0))), (q13, .inl (cs 0, 4, .inl (fun _ => 0)))] 122 [(0, .ref h0)] []
  refine n_aload_n (pc := 122) C 0 dX6_init_122 rfl rfl ?_
  refine n_bipush (pc := 123) C 30 dX6_init_123 (by decide) ?_
  refine n_new_int (pc := 125) C 30 rfl (by decide) (by decide) (by decide) dX6_init_125 (fun q14 => ?_)
  show VN p l e _ s m args below meth c _ D A 1 14 888 [(h0, .inr (6, [.ref q1, .ref q2, .ref q3, .ref q4, .int 0, .ref q5, .int 0, .int 0, .int 0, .int 0, .int 0, .int 0, .ref q6, .ref q7, .int 0, .ref q8, .ref q9, .ref q10, .ref q11, .ref q12, .ref q13, .null, .int 0, .int 0, .int 0, .int 0, .int 0])), (q1, .inl (cs 0, 48, .inl (fun _ => 0))), (q2, .inl (cs 0, 48, .inl (fun _ => 0))), (q3, .inl (cs 0, 48, .inl (fun _ => 0))), (q4, .inl (cs 0, 48, .inl (fun _ => 0))), (q5, .inl (cs 0, 200, .inl (fun _ => 0))), (q6, .inl (cs 0, 256, .inl (fun _ => 0))), (q7, .inl (cs 0, 30, .inl (fun _ => 0))), (q8, .inl (cs 0, 4, .inl (upd (upd (upd (upd (fun _ => 0) 0 (-1)) 1 (-1)) 2 (-1)) 3 (-1)))), (q9, .inl (cs 0, 4, .inl (fun _ => 0))), (q10, .inl (cs 0, 160, .inl (fun _ => 0))), (q11, .inl (cs 0, 4, .inl (fun _ => 0))), (q12, .inl (cs 0, 4, .inl (fun _ => 0))), (q13, .inl (cs 0, 4, .inl (fun _ => 0))), (q14, .inl (cs 0, 30, .inl (fun _ => 0)))] 127 [(0, .ref h0)] [.ref q14, .ref h0]
  refine n_putF (pc := 127) C (Cn := RX6) (T := TX6) (N := 27) (ci := 6) iw_6 tyX6 tyX6_ok nmX6 0 rfl rfl 21 (by decide) fl_RX6_49 rfl rfl hnm rfl rfl rfl rfl (Nat.le_of_ble_eq_true rfl) dX6_init_127 rfl ?_
  show VN p l e _ s m args below meth c _ D A 1 14 888 [(h0, .inr (6, [.ref q1, .ref q2, .ref q3, .ref q4, .int 0, .ref q5, .int 0, .int 0, .int 0, .int 0, .int 0, .int 0, .ref q6, .ref q7, .int 0, .ref q8, .ref q9, .ref q10, .ref q11, .ref q12, .ref q13, .ref q14, .int 0, .int 0, .int 0, .int 0, .int 0])), (q1, .inl (cs 0, 48, .inl (fun _ => 0))), (q2, .inl (cs 0, 48, .inl (fun _ => 0))), (q3, .inl (cs 0, 48, .inl (fun _ => 0))), (q4, .inl (cs 0, 48, .inl (fun _ => 0))), (q5, .inl (cs 0, 200, .inl (fun _ => 0))), (q6, .inl (cs 0, 256, .inl (fun _ => 0))), (q7, .inl (cs 0, 30, .inl (fun _ => 0))), (q8, .inl (cs 0, 4, .inl (upd (upd (upd (upd (fun _ => 0) 0 (-1)) 1 (-1)) 2 (-1)) 3 (-1)))), (q9, .inl (cs 0, 4, .inl (fun _ => 0))), (q10, .inl (cs 0, 160, .inl (fun _ => 0))), (q11, .inl (cs 0, 4, .inl (fun _ => 0))), (q12, .inl (cs 0, 4, .inl (fun _ => 0))), (q13, .inl (cs 0, 4, .inl (fun _ => 0))), (q14, .inl (cs 0, 30, .inl (fun _ => 0)))] 130 [(0, .ref h0)] []
  refine n_aload_n (pc := 130) C 0 dX6_init_130 rfl rfl ?_
  refine n_Vv (pc := 131) C (As := []) (rest := []) (b := h0) (ci := 6) (q0 := 0) (w' := [(h0, .inr (6, [.ref q1, .ref q2, .ref q3, .ref q4, .int 0, .ref q5, .int 0, .int 0, .int 0, .int 0, .int 0, .int 0, .ref q6, .ref q7, .int 0, .ref q8, .ref q9, .ref q10, .ref q11, .ref q12, .ref q13, .ref q14, .int 0, .int 0, .int 0, .int 0, .int 0])), (q1, .inl (cs 0, 48, .inl (bgF 0))), (q2, .inl (cs 0, 48, .inl (fun _ => 0))), (q3, .inl (cs 0, 48, .inl (fun _ => 0))), (q4, .inl (cs 0, 48, .inl (fun _ => 0))), (q5, .inl (cs 0, 200, .inl (fun _ => 0))), (q6, .inl (cs 0, 256, .inl (fun _ => 0))), (q7, .inl (cs 0, 30, .inl (fun _ => 0))), (q8, .inl (cs 0, 4, .inl (upd (upd (upd (upd (fun _ => 0) 0 (-1)) 1 (-1)) 2 (-1)) 3 (-1)))), (q9, .inl (cs 0, 4, .inl (fun _ => 0))), (q10, .inl (cs 0, 160, .inl (fun _ => 0))), (q11, .inl (cs 0, 4, .inl (fun _ => 0))), (q12, .inl (cs 0, 4, .inl (fun _ => 0))), (q13, .inl (cs 0, 4, .inl (fun _ => 0))), (q14, .inl (cs 0, 30, .inl (fun _ => 0)))]) (t_X6_begins l ad D cs (fun k => [h0, q1, q2, q3, q4, 0, q5, 0, 0, 0, 0, 0, 0, q6, q7, 0, q8, q9, q10, q11, q12, q13, q14].getD k 0) (fun k => if k = 15 then upd (upd (upd (upd (fun _ => 0) 0 (-1)) 1 (-1)) 2 (-1)) 3 (-1) else fun _ => 0) [] []) mv_X6_begins ml_RX6_52 rfl ⟨Nat.le_of_ble_eq_true rfl, Nat.le_of_ble_eq_true rfl⟩ ⟨rfl, rfl⟩ rfl rfl rfl rfl rfl rfl (Nat.le_of_ble_eq_true rfl) dX6_init_131 (Nat.le_of_ble_eq_true rfl) (Nat.le_of_ble_eq_true rfl) ?_
  show VN p l e _ s m args below meth c _ D A 1 14 888 [(h0, .inr (6, [.ref q1, .ref q2, .ref q3, .ref q4, .int 0, .ref q5, .int 0, .int 0, .int 0, .int 0, .int 0, .int 0, .ref q6, .ref q7, .int 0, .ref q8, .ref q9, .ref q10, .ref q11, .ref q12, .ref q13, .ref q14, .int 0, .int 0, .int 0, .int 0, .int 0])), (q1, .inl (cs 0, 48, .inl (bgF 0))), (q2, .inl (cs 0, 48, .inl (fun _ => 0))), (q3, .inl (cs 0, 48, .inl (fun _ => 0))), (q4, .inl (cs 0, 48, .inl (fun _ => 0))), (q5, .inl (cs 0, 200, .inl (fun _ => 0))), (q6, .inl (cs 0, 256, .inl (fun _ => 0))), (q7, .inl (cs 0, 30, .inl (fun _ => 0))), (q8, .inl (cs 0, 4, .inl (upd (upd (upd (upd (fun _ => 0) 0 (-1)) 1 (-1)) 2 (-1)) 3 (-1)))), (q9, .inl (cs 0, 4, .inl (fun _ => 0))), (q10, .inl (cs 0, 160, .inl (fun _ => 0))), (q11, .inl (cs 0, 4, .inl (fun _ => 0))), (q12, .inl (cs 0, 4, .inl (fun _ => 0))), (q13, .inl (cs 0, 4, .inl (fun _ => 0))), (q14, .inl (cs 0, 30, .inl (fun _ => 0)))] 134 [(0, .ref h0)] []
  refine n_aload_n (pc := 134) C 0 dX6_init_134 rfl rfl ?_
  refine n_get (pc := 135) C (Cn := RX6) (T := TX6) (N := 27) (ci := 6) iw_6 0 rfl rfl 0 (by decide) fl_RX6_7 rfl rfl dX6_init_135 ?_
  refine n_iconst (pc := 138) C 2 dX6_init_138 (by decide) ?_
  refine n_iconst (pc := 139) C 1 dX6_init_139 (by decide) ?_
  refine n_iast (pc := 140) C 1 rfl 2 rfl (by decide) (by decide) dX6_init_140 rfl ?_
  show VN p l e _ s m args below meth c _ D A 1 14 888 [(h0, .inr (6, [.ref q1, .ref q2, .ref q3, .ref q4, .int 0, .ref q5, .int 0, .int 0, .int 0, .int 0, .int 0, .int 0, .ref q6, .ref q7, .int 0, .ref q8, .ref q9, .ref q10, .ref q11, .ref q12, .ref q13, .ref q14, .int 0, .int 0, .int 0, .int 0, .int 0])), (q1, .inl (cs 0, 48, .inl (upd (bgF 0) 2 1))), (q2, .inl (cs 0, 48, .inl (fun _ => 0))), (q3, .inl (cs 0, 48, .inl (fun _ => 0))), (q4, .inl (cs 0, 48, .inl (fun _ => 0))), (q5, .inl (cs 0, 200, .inl (fun _ => 0))), (q6, .inl (cs 0, 256, .inl (fun _ => 0))), (q7, .inl (cs 0, 30, .inl (fun _ => 0))), (q8, .inl (cs 0, 4, .inl (upd (upd (upd (upd (fun _ => 0) 0 (-1)) 1 (-1)) 2 (-1)) 3 (-1)))), (q9, .inl (cs 0, 4, .inl (fun _ => 0))), (q10, .inl (cs 0, 160, .inl (fun _ => 0))), (q11, .inl (cs 0, 4, .inl (fun _ => 0))), (q12, .inl (cs 0, 4, .inl (fun _ => 0))), (q13, .inl (cs 0, 4, .inl (fun _ => 0))), (q14, .inl (cs 0, 30, .inl (fun _ => 0)))] 141 [(0, .ref h0)] []
  exact n_vret (pc := 141) C hr hlk dX6_init_141 (by decide) (by decide) (fun k => [h0, q1, q2, q3, q4, 0, q5, 0, 0, 0, 0, 0, 0, q6, q7, 0, q8, q9, q10, q11, q12, q13, q14].getD k 0) rfl [0, 1, 2, 3, 4, 5, 6, 7, 8, 9, 10, 11, 12, 13, 14] [(h0, .inr (6, [.ref q1, .ref q2, .ref q3, .ref q4, .int 0, .ref q5, .int 0, .int 0, .int 0, .int 0, .int 0, .int 0, .ref q6, .ref q7, .int 0, .ref q8, .ref q9, .ref q10, .ref q11, .ref q12, .ref q13, .ref q14, .int 0, .int 0, .int 0, .int 0, .int 0])), (q1, .inl (cs 0, 48, .inl (upd (bgF 0) 2 1))), (q2, .inl (cs 0, 48, .inl (fun _ => 0))), (q3, .inl (cs 0, 48, .inl (fun _ => 0))), (q4, .inl (cs 0, 48, .inl (fun _ => 0))), (q5, .inl (cs 0, 200, .inl (fun _ => 0))), (q6, .inl (cs 0, 256, .inl (fun _ => 0))), (q7, .inl (cs 0, 30, .inl (fun _ => 0))), (q8, .inl (cs 0, 4, .inl (upd (upd (upd (upd (fun _ => 0) 0 (-1)) 1 (-1)) 2 (-1)) 3 (-1)))), (q9, .inl (cs 0, 4, .inl (fun _ => 0))), (q10, .inl (cs 0, 160, .inl (fun _ => 0))), (q11, .inl (cs 0, 4, .inl (fun _ => 0))), (q12, .inl (cs 0, 4, .inl (fun _ => 0))), (q13, .inl (cs 0, 4, .inl (fun _ => 0))), (q14, .inl (cs 0, 30, .inl (fun _ => 0)))] rfl (by decide) (⟨rfl, (fun _ h => h), ⟨rfl, (ints_at bg_m00), ⟨rfl, (fun _ h => h), ⟨rfl, (fun _ h => h), ⟨rfl, (fun _ h => h), ⟨rfl, (fun _ h => h), ⟨rfl, (fun _ h => h), ⟨rfl, (fun _ h => h), ⟨rfl, (ints_at up_m1), ⟨rfl, (fun _ h => h), ⟨rfl, (fun _ h => h), ⟨rfl, (fun _ h => h), ⟨rfl, (fun _ h => h), ⟨rfl, (fun _ h => h), ⟨rfl, (fun _ h => h), trivial⟩⟩⟩⟩⟩⟩⟩⟩⟩⟩⟩⟩⟩⟩⟩)
