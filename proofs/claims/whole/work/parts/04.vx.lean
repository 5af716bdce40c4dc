/-! static tables and texts that nobody writes -/
def tbl0 : List Int32 := [2, 1, 0, 20]
def tbl1 : List Int32 := [9, 9, 9, 99]
def tbl2 : List Int32 := [5, 99, 99, 99, 9999]
def jsK : List Nat := [103, 105, 107, 109, 111, 113, 115, 117, 119, 121, 83, 89, 91, 93]
def jsT : List String := ["weft", "fray", "toll", "slip", "buyer", "wife", "magistrate", "knitter", "clerk", "uncle", "truth", "wish", "web", "coins"]
def jsL : List Nat := [4, 4, 4, 4, 5, 4, 10, 7, 5, 5, 5, 4, 3, 5]
def jsB : List (List Int32) := [[119, 101, 102, 116], [102, 114, 97, 121], [116, 111, 108, 108], [115, 108, 105, 112], [98, 117, 121, 101, 114], [119, 105, 102, 101], [109, 97, 103, 105, 115, 116, 114, 97, 116, 101], [107, 110, 105, 116, 116, 101, 114], [99, 108, 101, 114, 107], [117, 110, 99, 108, 101], [116, 114, 117, 116, 104], [119, 105, 115, 104], [119, 101, 98], [99, 111, 105, 110, 115]]
def SFt (ad : Nat → Nat) (A : Nat → Prop) (U : State) (H : Heap) (k : Nat) (nm : String) (tb : List Int32) : Prop := va_Z "WoolMarket" nm "[I" (.ref (ad k)) A U H ∧ va_T .int (ad k) tb.length (fun j => .int (tb.getD j 0)) A U H
def NW (U : State) : Prop := va_Nw (.methodLinkNest RX5 9 yX0_init RX5) U ∧ va_Nw (.methodLinkNest RX5 24 yX3_init RX5) U ∧ va_Nw (.methodLinkNest RX3 11 yX0_init RX5) U ∧ va_Nw (.methodLinkNest RX5 48 yX4_init RX5) U ∧ va_Nw (.methodLinkNest RX5 57 yX1_init RX5) U ∧ va_Nw (.methodLinkNest RX5 58 yX2_init RX5) U ∧ va_Nw (.methodLinkNest RX0 47 yX5_isWithin RX5) U ∧ va_Nw (.methodLinkNest RX0 72 yX5_held RX5) U ∧ va_Nw (.fieldLinkNest RX0 9 "WoolMarket" "LAW_AT_FIRST" "[I" RX5) U ∧ va_Nw (.fieldLinkNest RX3 63 "WoolMarket" "LAW_MOST" "[I" RX5) U
theorem NW.warm {s U : State} (hW : s.WarmedH U.vm) (h : NW s) : NW U :=
  ⟨va_Nw.warmM hW h.1, va_Nw.warmM hW h.2.1, va_Nw.warmM hW h.2.2.1, va_Nw.warmM hW h.2.2.2.1, va_Nw.warmM hW h.2.2.2.2.1, va_Nw.warmM hW h.2.2.2.2.2.1, va_Nw.warmM hW h.2.2.2.2.2.2.1, va_Nw.warmM hW h.2.2.2.2.2.2.2.1, va_Nw.warmF hW h.2.2.2.2.2.2.2.2.1, va_Nw.warmF hW h.2.2.2.2.2.2.2.2.2⟩
theorem NW.same {s U : State} (hv : U.vm = s.vm) (h : NW s) : NW U :=
  ⟨va_Nw.same rfl hv.symm h.1, va_Nw.same rfl hv.symm h.2.1, va_Nw.same rfl hv.symm h.2.2.1, va_Nw.same rfl hv.symm h.2.2.2.1, va_Nw.same rfl hv.symm h.2.2.2.2.1, va_Nw.same rfl hv.symm h.2.2.2.2.2.1, va_Nw.same rfl hv.symm h.2.2.2.2.2.2.1, va_Nw.same rfl hv.symm h.2.2.2.2.2.2.2.1, va_Nw.same rfl hv.symm h.2.2.2.2.2.2.2.2.1, va_Nw.same rfl hv.symm h.2.2.2.2.2.2.2.2.2⟩
def SF (ad : Nat → Nat) (A : Nat → Prop) (U : State) (H : Heap) : Prop :=
  SFt ad A U H 0 "LAW_AT_FIRST" tbl0 ∧ SFt ad A U H 1 "LAW_MOST" tbl1 ∧ SFt ad A U H 2 "TRAIT_MOST" tbl2 ∧
  va_Z "java/lang/String" "COMPACT_STRINGS" "Z" (.int 1) A U H ∧ va_Zq "jdk/internal/util/Preconditions" "SIOOBE_FORMATTER" "Ljava/util/function/BiFunction;" A U H ∧
  vk_S 14 jsL jsB (fun i => ad (10 + i)) (fun i => ad (30 + i)) A U H ∧ (∀ i : Nat, i < 14 → vk_R RX3 (jsK.getD i 0) (jsT.getD i "") (ad (10 + i)) U) ∧ NW U
theorem SF.narrow {ad : Nat → Nat} {A B : Nat → Prop} {U : State} {H : Heap} (h : SF ad A U H) (hAB : ∀ q, B q → A q) : SF ad B U H :=
  ⟨⟨h.1.1.narrow hAB, h.1.2.narrow hAB⟩, ⟨h.2.1.1.narrow hAB, h.2.1.2.narrow hAB⟩, ⟨h.2.2.1.1.narrow hAB, h.2.2.1.2.narrow hAB⟩, h.2.2.2.1.narrow hAB, h.2.2.2.2.1.narrow hAB, h.2.2.2.2.2.1.narrow hAB, h.2.2.2.2.2.2⟩
theorem SF.kept {ad : Nat → Nat} {A : Nat → Prop} {U : State} {H H1 : Heap} (h : SF ad A U H) (hq : ∀ a : Nat, a < H.size → ¬ A a → H1[a]? = H[a]?) : SF ad A U H1 :=
  ⟨⟨h.1.1.kept hq, h.1.2.kept hq⟩, ⟨h.2.1.1.kept hq, h.2.1.2.kept hq⟩, ⟨h.2.2.1.1.kept hq, h.2.2.1.2.kept hq⟩, h.2.2.2.1.kept hq, h.2.2.2.2.1.kept hq, h.2.2.2.2.2.1.kept hq, h.2.2.2.2.2.2⟩
theorem SF.warm {ad : Nat → Nat} {A : Nat → Prop} {s U : State} {H : Heap} (hW : s.WarmedH U.vm) (h : SF ad A s H) : SF ad A U H :=
  ⟨⟨h.1.1.moved hW.alike, h.1.2.moved hW.alike⟩, ⟨h.2.1.1.moved hW.alike, h.2.1.2.moved hW.alike⟩, ⟨h.2.2.1.1.moved hW.alike, h.2.2.1.2.moved hW.alike⟩, h.2.2.2.1.moved hW.alike, h.2.2.2.2.1.moved hW.alike, h.2.2.2.2.2.1.moved hW.alike, fun i hi => (h.2.2.2.2.2.2.1 i hi).warm hW, h.2.2.2.2.2.2.2.warm hW⟩
theorem SF.same {ad : Nat → Nat} {A : Nat → Prop} {s U : State} {H : Heap} (hv : U.vm = s.vm) (h : SF ad A s H) : SF ad A U H := by
  have hA : s.vm.Alike U.vm := by rw [hv]; exact Vm.Alike.refl _
  exact ⟨⟨h.1.1.moved hA, h.1.2.moved hA⟩, ⟨h.2.1.1.moved hA, h.2.1.2.moved hA⟩, ⟨h.2.2.1.1.moved hA, h.2.2.1.2.moved hA⟩, h.2.2.2.1.moved hA, h.2.2.2.2.1.moved hA, h.2.2.2.2.2.1.moved hA, fun i hi => vk_R.same hv (h.2.2.2.2.2.2.1 i hi), h.2.2.2.2.2.2.2.same hv⟩
/-! blocks of a world -/
theorem bk_at {pre blk post : va_W} {i : Nat} {x : Nat × va_E} (h : blk[i]? = some x) : (pre ++ (blk ++ post))[pre.length + i]? = some x := by
  have hl := (List.getElem?_eq_some_iff.mp h).1
  rw [List.getElem?_append_right (Nat.le_add_right _ _), Nat.add_sub_cancel_left, List.getElem?_append_left hl, h]
theorem bk_set {pre blk post : va_W} {i : Nat} {x : Nat × va_E} (h : i < blk.length) : (pre ++ (blk ++ post)).set (pre.length + i) x = pre ++ (blk.set i x ++ post) := by
  rw [List.set_append_right _ _ (Nat.le_add_right _ _), Nat.add_sub_cancel_left, List.set_append_left _ _ h]
def tysW (cs : Nat → ClassId) : List (ClassId × FieldType) := [(cs 0, .int), (cs 1, .byte), (cs 2, .long), (cs 3, .array .int), (cs 4, .object "WoolMarket$Sheet"), (cs 5, .object "WoolMarket$Shelf")]
/-! contracts: from world w to world w' -/
def cP (ad : Nat → Nat) (D : va_G) (tys : List (ClassId × FieldType)) (w : va_W) (sz : Nat) (av : List Value) : Array Value → State → Prop := va_Pc av (fun U => U.heap.size = sz ∧ va_P D vwCl w U.heap ∧ va_K D vwCl tys U ∧ va_D (fun _ => True) w ∧ SF ad (va_A w sz) U U.heap)
def cB (D : va_G) (tys : List (ClassId × FieldType)) (A : Nat → Prop) (w : va_W) : Unit → State → Prop := fun _ t => va_P D vwCl w t.heap ∧ va_K D vwCl tys t ∧ va_D A w
def CTi (l : Launch) (y : MethodName) (cc : ByteArray) (maxL : Nat) (rt : FieldType) (rm : Room) (ad : Nat → Nat) (D : va_G) (tys : List (ClassId × FieldType)) (w : va_W) (av : List Value) (r : Int32) (w' : va_W) : Prop := ∀ sz : Nat, Met l y (.code y cc maxL (some rt) :: ALLW) rm (cP ad D tys w sz av) (va_Qi (fun x _ => x = r) (cB D tys (va_A w sz) w') (va_A w sz)) 0 0 (va_A w sz)
def CTl (l : Launch) (y : MethodName) (cc : ByteArray) (maxL : Nat) (rm : Room) (ad : Nat → Nat) (D : va_G) (tys : List (ClassId × FieldType)) (w : va_W) (av : List Value) (r : Int64) (w' : va_W) : Prop := ∀ sz : Nat, Met l y (.code y cc maxL (some .long) :: ALLW) rm (cP ad D tys w sz av) (va_Ql (fun x _ => x = r) (cB D tys (va_A w sz) w') (va_A w sz)) 0 0 (va_A w sz)
def CTv (l : Launch) (y : MethodName) (cc : ByteArray) (maxL : Nat) (rm : Room) (ad : Nat → Nat) (D : va_G) (tys : List (ClassId × FieldType)) (w : va_W) (av : List Value) (w' : va_W) : Prop := ∀ sz : Nat, Met l y (.code y cc maxL none :: ALLW) rm (cP ad D tys w sz av) (va_Qv (fun _ => True) (cB D tys (va_A w sz) w') (va_A w sz)) 0 0 (va_A w sz)
theorem cP_blind {ad : Nat → Nat} {D : va_G} {tys : List (ClassId × FieldType)} {w : va_W} {sz : Nat} {av : List Value} : FrameBlind (cP ad D tys w sz av) := fun a U g mk q => by
  obtain ⟨q0, q1, qP, qK, qD, qF⟩ := q
  exact ⟨q0, q1, qP, va_K.moved (u := U) (U := U.calling g mk a) (Vm.Alike.refl U.vm) qK, qD, SF.same (s := U) (U := U.calling g mk a) rfl qF⟩
/-- what is fixed while a method runs -/
def Cx (p : Program) (s : State) (m : MethodId) (args : Array Value) (c : Code) (cc : ByteArray) (nL : Nat) (own : String) (ad : Nat → Nat) (D : va_G) (tys : List (ClassId × FieldType)) (A : Nat → Prop) : Prop := p.tables.exec = Jvm.exec ∧ c.code = cc ∧ c.maxLocals = nL ∧ s.vm.findClass own = some m.cls ∧ (∀ w ∈ ALLW, w.before args s = true) ∧ va_K D vwCl tys s ∧ SF ad A s s.heap ∧ ∀ q : Nat, s.heap.size ≤ q → A q
def VX (p : Program) (l : Launch) (e : Env) (R : Room) (s : State) (m : MethodId) (args : Array Value) (below : List Frame) (meth : Method) (c : Code) (Q : State → Prop) (D : va_G) (A : Nat → Prop) (nL : Nat) (pre blk post : va_W) (pc : Nat) (lv : List (Nat × Value)) (st : List Value) : Prop :=
  ∀ (H : Heap) (locs : List Loc) (ls : Array Slot), va_P D vwCl (pre ++ (blk ++ post)) H → va_D A (pre ++ (blk ++ post)) → va_S A s.heap H locs → lv_has ls nL lv → W p l e R s m args below meth c H locs 0 0 Q (F0 m pc ls st)
def QI (below : List Frame) (args : Array Value) (s : State) (D : va_G) (tys : List (ClassId × FieldType)) (A : Nat → Prop) (r : Int32) (w : va_W) : State → Prop := MQ below (va_Qi (fun x _ => x = r) (cB D tys A w) A) args s 0 0 A
def QL (below : List Frame) (args : Array Value) (s : State) (D : va_G) (tys : List (ClassId × FieldType)) (A : Nat → Prop) (r : Int64) (w : va_W) : State → Prop := MQ below (va_Ql (fun x _ => x = r) (cB D tys A w) A) args s 0 0 A
def QV (below : List Frame) (args : Array Value) (s : State) (D : va_G) (tys : List (ClassId × FieldType)) (A : Nat → Prop) (w : va_W) : State → Prop := MQ below (va_Qv (fun _ => True) (cB D tys A w) A) args s 0 0 A
section VXA
variable {l : Launch} {y : MethodName} {cc : ByteArray} {maxL : Nat} {rt : FieldType} {rm : Room} {ad : Nat → Nat} {D : va_G} {tys : List (ClassId × FieldType)} {pre blk blk' post : va_W} {av : List Value} {lv0 : List (Nat × Value)}
theorem CTi.of {r : Int32} (hy : plainName y.cls = true) (hlv : lv_args 0 av = lv0) (hlen : (lg_sl av).length ≤ maxL)
    (body : ∀ (p : Program) (e : Env) (s : State) (m : MethodId) (args : Array Value) (below : List Frame) (meth : Method) (c : Code) (A : Nat → Prop), Cx p s m args c cc maxL y.cls ad D tys A → meth.sig.returnType = (some rt) → meth.locks = false → VX p l e rm s m args below meth c (QI below args s D tys A r (pre ++ (blk' ++ post))) D A maxL pre blk post 0 lv0 []) : CTi l y cc maxL rt rm ad D tys (pre ++ (blk ++ post)) av r (pre ++ (blk' ++ post)) := by
  intro sz
  refine Met.ofW (cc := cc) (maxL := maxL) (ret := (some rt)) hy rfl ?_
  intro p e s m args below meth c s₁ B hml hv
  obtain ⟨rfl, hsz, hP, hK, hD0, hF⟩ := hv
  subst hsz
  have h := body p e s m av.toArray below meth c (va_A (pre ++ (blk ++ post)) s.heap.size) ⟨B.exec, B.bytes, hml, findClass_of_methodNamed B.named, fun w h => atoms_spec B.pre w (List.mem_cons_of_mem _ h), hK, hF, fun q h => Or.inr h⟩ B.returns B.notSynchronized
  rw [lg_entry_eq]
  refine h s.heap [] _ hP hD0.self va_S.rf ?_
  rw [← hlv]
  exact lv_entry av hlen
theorem CTl.of {r : Int64} (hy : plainName y.cls = true) (hlv : lv_args 0 av = lv0) (hlen : (lg_sl av).length ≤ maxL)
    (body : ∀ (p : Program) (e : Env) (s : State) (m : MethodId) (args : Array Value) (below : List Frame) (meth : Method) (c : Code) (A : Nat → Prop), Cx p s m args c cc maxL y.cls ad D tys A → meth.sig.returnType = (some .long) → meth.locks = false → VX p l e rm s m args below meth c (QL below args s D tys A r (pre ++ (blk' ++ post))) D A maxL pre blk post 0 lv0 []) : CTl l y cc maxL rm ad D tys (pre ++ (blk ++ post)) av r (pre ++ (blk' ++ post)) := by
  intro sz
  refine Met.ofW (cc := cc) (maxL := maxL) (ret := (some .long)) hy rfl ?_
  intro p e s m args below meth c s₁ B hml hv
  obtain ⟨rfl, hsz, hP, hK, hD0, hF⟩ := hv
  subst hsz
  have h := body p e s m av.toArray below meth c (va_A (pre ++ (blk ++ post)) s.heap.size) ⟨B.exec, B.bytes, hml, findClass_of_methodNamed B.named, fun w h => atoms_spec B.pre w (List.mem_cons_of_mem _ h), hK, hF, fun q h => Or.inr h⟩ B.returns B.notSynchronized
  rw [lg_entry_eq]
  refine h s.heap [] _ hP hD0.self va_S.rf ?_
  rw [← hlv]
  exact lv_entry av hlen
theorem CTv.of (hy : plainName y.cls = true) (hlv : lv_args 0 av = lv0) (hlen : (lg_sl av).length ≤ maxL)
    (body : ∀ (p : Program) (e : Env) (s : State) (m : MethodId) (args : Array Value) (below : List Frame) (meth : Method) (c : Code) (A : Nat → Prop), Cx p s m args c cc maxL y.cls ad D tys A → meth.sig.returnType = none → meth.locks = false → VX p l e rm s m args below meth c (QV below args s D tys A (pre ++ (blk' ++ post))) D A maxL pre blk post 0 lv0 []) : CTv l y cc maxL rm ad D tys (pre ++ (blk ++ post)) av (pre ++ (blk' ++ post)) := by
  intro sz
  refine Met.ofW (cc := cc) (maxL := maxL) (ret := none) hy rfl ?_
  intro p e s m args below meth c s₁ B hml hv
  obtain ⟨rfl, hsz, hP, hK, hD0, hF⟩ := hv
  subst hsz
  have h := body p e s m av.toArray below meth c (va_A (pre ++ (blk ++ post)) s.heap.size) ⟨B.exec, B.bytes, hml, findClass_of_methodNamed B.named, fun w h => atoms_spec B.pre w (List.mem_cons_of_mem _ h), hK, hF, fun q h => Or.inr h⟩ B.returns B.notSynchronized
  rw [lg_entry_eq]
  refine h s.heap [] _ hP hD0.self va_S.rf ?_
  rw [← hlv]
  exact lv_entry av hlen
end VXA
section VXR
variable {p : Program} {l : Launch} {e : Env} {R : Room} {s : State} {m : MethodId} {args : Array Value} {below : List Frame} {meth : Method} {c : Code} {Q : State → Prop} {ad : Nat → Nat} {D : va_G} {tys : List (ClassId × FieldType)} {A : Nat → Prop} {cc : ByteArray} {nL : Nat} {own : String} {pre blk blk' post : va_W} {pc : Nat} {lv : List (Nat × Value)} {rest : List Value}
theorem r_iconst (C : Cx p s m args c cc nL own ad D tys A) {n : Int} (v : Int32) (hdg : decode cc pc = .ok (.iconst n, 1)) (hv : Int32.ofInt n = v) (k : VX p l e R s m args below meth c Q D A nL pre blk post (pc + 1) lv (.int v :: rest)) : VX p l e R s m args below meth c Q D A nL pre blk post pc lv (rest) := fun H locs ls hP hD hS hl => lv_iconst C.1 C.2.1 hdg hv (k H locs ls hP hD hS hl)
theorem r_bipush (C : Cx p s m args c cc nL own ad D tys A) {n : Int} (v : Int32) (hdg : decode cc pc = .ok (.bipush n, 2)) (hv : (Int8.ofInt n).toInt32 = v) (k : VX p l e R s m args below meth c Q D A nL pre blk post (pc + 2) lv (.int v :: rest)) : VX p l e R s m args below meth c Q D A nL pre blk post pc lv (rest) := fun H locs ls hP hD hS hl => lv_bipush C.1 C.2.1 hdg hv (k H locs ls hP hD hS hl)
theorem r_sipush (C : Cx p s m args c cc nL own ad D tys A) {n : Int} (v : Int32) (hdg : decode cc pc = .ok (.sipush n, 3)) (hv : (Int16.ofInt n).toInt32 = v) (k : VX p l e R s m args below meth c Q D A nL pre blk post (pc + 3) lv (.int v :: rest)) : VX p l e R s m args below meth c Q D A nL pre blk post pc lv (rest) := fun H locs ls hP hD hS hl => lv_sipush C.1 C.2.1 hdg hv (k H locs ls hP hD hS hl)
theorem r_lconst (C : Cx p s m args c cc nL own ad D tys A) {n : Fin 2} (v : Int64) (hdg : decode cc pc = .ok (.lconst n, 1)) (hv : Int64.ofNat (n : Nat) = v) (k : VX p l e R s m args below meth c Q D A nL pre blk post (pc + 1) lv (.long v :: rest)) : VX p l e R s m args below meth c Q D A nL pre blk post pc lv (rest) := fun H locs ls hP hD hS hl => lv_lconst C.1 C.2.1 hdg hv (k H locs ls hP hD hS hl)
theorem r_ldc (C : Cx p s m args c cc nL own ad D tys A) {index : Nat} {v : Int32} (hdg : decode cc pc = .ok (.ldc index, 2)) (hw : Cond.constant own index v ∈ ALLW) (k : VX p l e R s m args below meth c Q D A nL pre blk post (pc + 2) lv (.int v :: rest)) : VX p l e R s m args below meth c Q D A nL pre blk post pc lv (rest) := fun H locs ls hP hD hS hl => lv_ldc C.1 C.2.1 C.2.2.2.1 (C.2.2.2.2.1 _ hw) hdg (k H locs ls hP hD hS hl)
theorem r_ldcw (C : Cx p s m args c cc nL own ad D tys A) {index : Nat} {v : Int32} (hdg : decode cc pc = .ok (.ldc_w index, 3)) (hw : Cond.constant own index v ∈ ALLW) (k : VX p l e R s m args below meth c Q D A nL pre blk post (pc + 3) lv (.int v :: rest)) : VX p l e R s m args below meth c Q D A nL pre blk post pc lv (rest) := fun H locs ls hP hD hS hl => lv_ldcw C.1 C.2.1 C.2.2.2.1 (C.2.2.2.2.1 _ hw) hdg (k H locs ls hP hD hS hl)
theorem r_ldc2 (C : Cx p s m args c cc nL own ad D tys A) {index : Nat} {v : Int64} (hdg : decode cc pc = .ok (.ldc2_w index, 3)) (hw : Cond.constantLong own index v ∈ ALLW) (k : VX p l e R s m args below meth c Q D A nL pre blk post (pc + 3) lv (.long v :: rest)) : VX p l e R s m args below meth c Q D A nL pre blk post pc lv (rest) := fun H locs ls hP hD hS hl => lv_ldc2 C.1 C.2.1 C.2.2.2.1 (C.2.2.2.2.1 _ hw) hdg (k H locs ls hP hD hS hl)
theorem r_iload_n (C : Cx p s m args c cc nL own ad D tys A) {kf : Fin 4} {i : Nat} {x : Int32} (kk : Nat) (hdg : decode cc pc = .ok (.iload_n kf, 1)) (hi : (kf : Nat) = i) (hk : lv[kk]? = some (i, .int x)) (k : VX p l e R s m args below meth c Q D A nL pre blk post (pc + 1) lv (.int x :: rest)) : VX p l e R s m args below meth c Q D A nL pre blk post pc lv (rest) := fun H locs ls hP hD hS hl => lv_iload_n C.1 C.2.1 hdg hi (lv_at hl kk hk) (k H locs ls hP hD hS hl)
theorem r_iload (C : Cx p s m args c cc nL own ad D tys A) {i : Nat} {x : Int32} (kk : Nat) (hdg : decode cc pc = .ok (.iload i, 2)) (hk : lv[kk]? = some (i, .int x)) (k : VX p l e R s m args below meth c Q D A nL pre blk post (pc + 2) lv (.int x :: rest)) : VX p l e R s m args below meth c Q D A nL pre blk post pc lv (rest) := fun H locs ls hP hD hS hl => lv_iload C.1 C.2.1 hdg (lv_at hl kk hk) (k H locs ls hP hD hS hl)
theorem r_istore_n (C : Cx p s m args c cc nL own ad D tys A) {kf : Fin 4} {i : Nat} {x : Int32} (lv' : List (Nat × Value)) (hdg : decode cc pc = .ok (.istore_n kf, 1)) (hi : (kf : Nat) = i) (hn : i < nL) (hq : (i, Value.int x) :: lv.filter (fun q => !(q.1 == i) && !(q.1 + 1 == i && q.2.category == 2)) = lv') (k : VX p l e R s m args below meth c Q D A nL pre blk post (pc + 1) lv' (rest)) : VX p l e R s m args below meth c Q D A nL pre blk post pc lv (.int x :: rest) := fun H locs ls hP hD hS hl => lv_istore_n C.1 C.2.1 hdg hi hl hn hq (fun ls2 hl2 => k H locs ls2 hP hD hS hl2)
theorem r_istore (C : Cx p s m args c cc nL own ad D tys A) {i : Nat} {x : Int32} (lv' : List (Nat × Value)) (hdg : decode cc pc = .ok (.istore i, 2)) (hn : i < nL) (hq : (i, Value.int x) :: lv.filter (fun q => !(q.1 == i) && !(q.1 + 1 == i && q.2.category == 2)) = lv') (k : VX p l e R s m args below meth c Q D A nL pre blk post (pc + 2) lv' (rest)) : VX p l e R s m args below meth c Q D A nL pre blk post pc lv (.int x :: rest) := fun H locs ls hP hD hS hl => lv_istore C.1 C.2.1 hdg hl hn hq (fun ls2 hl2 => k H locs ls2 hP hD hS hl2)
theorem r_lload_n (C : Cx p s m args c cc nL own ad D tys A) {kf : Fin 4} {i : Nat} {x : Int64} (kk : Nat) (hdg : decode cc pc = .ok (.lload_n kf, 1)) (hi : (kf : Nat) = i) (hk : lv[kk]? = some (i, .long x)) (k : VX p l e R s m args below meth c Q D A nL pre blk post (pc + 1) lv (.long x :: rest)) : VX p l e R s m args below meth c Q D A nL pre blk post pc lv (rest) := fun H locs ls hP hD hS hl => lv_lload_n C.1 C.2.1 hdg hi (lv_at hl kk hk) (k H locs ls hP hD hS hl)
theorem r_lload (C : Cx p s m args c cc nL own ad D tys A) {i : Nat} {x : Int64} (kk : Nat) (hdg : decode cc pc = .ok (.lload i, 2)) (hk : lv[kk]? = some (i, .long x)) (k : VX p l e R s m args below meth c Q D A nL pre blk post (pc + 2) lv (.long x :: rest)) : VX p l e R s m args below meth c Q D A nL pre blk post pc lv (rest) := fun H locs ls hP hD hS hl => lv_lload C.1 C.2.1 hdg (lv_at hl kk hk) (k H locs ls hP hD hS hl)
theorem r_lstore_n (C : Cx p s m args c cc nL own ad D tys A) {kf : Fin 4} {i : Nat} {x : Int64} (lv' : List (Nat × Value)) (hdg : decode cc pc = .ok (.lstore_n kf, 1)) (hi : (kf : Nat) = i) (hn : i + 1 < nL) (hq : (i, Value.long x) :: lv.filter (fun q => !(q.1 == i) && (!(q.1 == i + 1) && !(q.1 + 1 == i && q.2.category == 2))) = lv') (k : VX p l e R s m args below meth c Q D A nL pre blk post (pc + 1) lv' (rest)) : VX p l e R s m args below meth c Q D A nL pre blk post pc lv (.long x :: rest) := fun H locs ls hP hD hS hl => lv_lstore_n C.1 C.2.1 hdg hi hl hn hq (fun ls2 hl2 => k H locs ls2 hP hD hS hl2)
theorem r_lstore (C : Cx p s m args c cc nL own ad D tys A) {i : Nat} {x : Int64} (lv' : List (Nat × Value)) (hdg : decode cc pc = .ok (.lstore i, 2)) (hn : i + 1 < nL) (hq : (i, Value.long x) :: lv.filter (fun q => !(q.1 == i) && (!(q.1 == i + 1) && !(q.1 + 1 == i && q.2.category == 2))) = lv') (k : VX p l e R s m args below meth c Q D A nL pre blk post (pc + 2) lv' (rest)) : VX p l e R s m args below meth c Q D A nL pre blk post pc lv (.long x :: rest) := fun H locs ls hP hD hS hl => lv_lstore C.1 C.2.1 hdg hl hn hq (fun ls2 hl2 => k H locs ls2 hP hD hS hl2)
theorem r_aload_n (C : Cx p s m args c cc nL own ad D tys A) {kf : Fin 4} {i : Nat} {x : Nat} (kk : Nat) (hdg : decode cc pc = .ok (.aload_n kf, 1)) (hi : (kf : Nat) = i) (hk : lv[kk]? = some (i, .ref x)) (k : VX p l e R s m args below meth c Q D A nL pre blk post (pc + 1) lv (.ref x :: rest)) : VX p l e R s m args below meth c Q D A nL pre blk post pc lv (rest) := fun H locs ls hP hD hS hl => lv_aload_n C.1 C.2.1 hdg hi (lv_at hl kk hk) (k H locs ls hP hD hS hl)
theorem r_aload (C : Cx p s m args c cc nL own ad D tys A) {i : Nat} {x : Nat} (kk : Nat) (hdg : decode cc pc = .ok (.aload i, 2)) (hk : lv[kk]? = some (i, .ref x)) (k : VX p l e R s m args below meth c Q D A nL pre blk post (pc + 2) lv (.ref x :: rest)) : VX p l e R s m args below meth c Q D A nL pre blk post pc lv (rest) := fun H locs ls hP hD hS hl => lv_aload C.1 C.2.1 hdg (lv_at hl kk hk) (k H locs ls hP hD hS hl)
theorem r_astore_n (C : Cx p s m args c cc nL own ad D tys A) {kf : Fin 4} {i : Nat} {x : Nat} (lv' : List (Nat × Value)) (hdg : decode cc pc = .ok (.astore_n kf, 1)) (hi : (kf : Nat) = i) (hn : i < nL) (hq : (i, Value.ref x) :: lv.filter (fun q => !(q.1 == i) && !(q.1 + 1 == i && q.2.category == 2)) = lv') (k : VX p l e R s m args below meth c Q D A nL pre blk post (pc + 1) lv' (rest)) : VX p l e R s m args below meth c Q D A nL pre blk post pc lv (.ref x :: rest) := fun H locs ls hP hD hS hl => lv_astore_n C.1 C.2.1 hdg hi hl hn hq (fun ls2 hl2 => k H locs ls2 hP hD hS hl2)
theorem r_astore (C : Cx p s m args c cc nL own ad D tys A) {i : Nat} {x : Nat} (lv' : List (Nat × Value)) (hdg : decode cc pc = .ok (.astore i, 2)) (hn : i < nL) (hq : (i, Value.ref x) :: lv.filter (fun q => !(q.1 == i) && !(q.1 + 1 == i && q.2.category == 2)) = lv') (k : VX p l e R s m args below meth c Q D A nL pre blk post (pc + 2) lv' (rest)) : VX p l e R s m args below meth c Q D A nL pre blk post pc lv (.ref x :: rest) := fun H locs ls hP hD hS hl => lv_astore C.1 C.2.1 hdg hl hn hq (fun ls2 hl2 => k H locs ls2 hP hD hS hl2)
theorem r_iinc (C : Cx p s m args c cc nL own ad D tys A) {i : Nat} {n : Int} {x : Int32} (v : Int32) (kk : Nat) (lv' : List (Nat × Value)) (hdg : decode cc pc = .ok (.iinc i n, 3)) (hk : lv[kk]? = some (i, .int x)) (hv : x + Int32.ofInt n = v) (hn : i < nL) (hq : (i, Value.int v) :: lv.filter (fun q => !(q.1 == i) && !(q.1 + 1 == i && q.2.category == 2)) = lv') (k : VX p l e R s m args below meth c Q D A nL pre blk post (pc + 3) lv' (rest)) : VX p l e R s m args below meth c Q D A nL pre blk post pc lv (rest) := fun H locs ls hP hD hS hl => lv_iinc C.1 C.2.1 hdg hl hk hv hn hq (fun ls2 hl2 => k H locs ls2 hP hD hS hl2)
theorem r_iadd (C : Cx p s m args c cc nL own ad D tys A) {x y : Int32} (hdg : decode cc pc = .ok (.iadd, 1))  (k : VX p l e R s m args below meth c Q D A nL pre blk post (pc + 1) lv (.int (x + y) :: rest)) : VX p l e R s m args below meth c Q D A nL pre blk post pc lv (.int y :: .int x :: rest) := fun H locs ls hP hD hS hl => lv_iadd C.1 C.2.1 hdg (k H locs ls hP hD hS hl)
theorem r_isub (C : Cx p s m args c cc nL own ad D tys A) {x y : Int32} (hdg : decode cc pc = .ok (.isub, 1))  (k : VX p l e R s m args below meth c Q D A nL pre blk post (pc + 1) lv (.int (x - y) :: rest)) : VX p l e R s m args below meth c Q D A nL pre blk post pc lv (.int y :: .int x :: rest) := fun H locs ls hP hD hS hl => lv_isub C.1 C.2.1 hdg (k H locs ls hP hD hS hl)
theorem r_imul (C : Cx p s m args c cc nL own ad D tys A) {x y : Int32} (hdg : decode cc pc = .ok (.imul, 1))  (k : VX p l e R s m args below meth c Q D A nL pre blk post (pc + 1) lv (.int (x * y) :: rest)) : VX p l e R s m args below meth c Q D A nL pre blk post pc lv (.int y :: .int x :: rest) := fun H locs ls hP hD hS hl => lv_imul C.1 C.2.1 hdg (k H locs ls hP hD hS hl)
theorem r_iand (C : Cx p s m args c cc nL own ad D tys A) {x y : Int32} (hdg : decode cc pc = .ok (.iand, 1))  (k : VX p l e R s m args below meth c Q D A nL pre blk post (pc + 1) lv (.int (x &&& y) :: rest)) : VX p l e R s m args below meth c Q D A nL pre blk post pc lv (.int y :: .int x :: rest) := fun H locs ls hP hD hS hl => lv_iand C.1 C.2.1 hdg (k H locs ls hP hD hS hl)
theorem r_ior (C : Cx p s m args c cc nL own ad D tys A) {x y : Int32} (hdg : decode cc pc = .ok (.ior, 1))  (k : VX p l e R s m args below meth c Q D A nL pre blk post (pc + 1) lv (.int (x ||| y) :: rest)) : VX p l e R s m args below meth c Q D A nL pre blk post pc lv (.int y :: .int x :: rest) := fun H locs ls hP hD hS hl => lv_ior C.1 C.2.1 hdg (k H locs ls hP hD hS hl)
theorem r_ixor (C : Cx p s m args c cc nL own ad D tys A) {x y : Int32} (hdg : decode cc pc = .ok (.ixor, 1))  (k : VX p l e R s m args below meth c Q D A nL pre blk post (pc + 1) lv (.int (x ^^^ y) :: rest)) : VX p l e R s m args below meth c Q D A nL pre blk post pc lv (.int y :: .int x :: rest) := fun H locs ls hP hD hS hl => lv_ixor C.1 C.2.1 hdg (k H locs ls hP hD hS hl)
theorem r_ishl (C : Cx p s m args c cc nL own ad D tys A) {x y : Int32} (hdg : decode cc pc = .ok (.ishl, 1))  (k : VX p l e R s m args below meth c Q D A nL pre blk post (pc + 1) lv (.int (x <<< (y &&& 31)) :: rest)) : VX p l e R s m args below meth c Q D A nL pre blk post pc lv (.int y :: .int x :: rest) := fun H locs ls hP hD hS hl => lv_ishl C.1 C.2.1 hdg (k H locs ls hP hD hS hl)
theorem r_ishr (C : Cx p s m args c cc nL own ad D tys A) {x y : Int32} (hdg : decode cc pc = .ok (.ishr, 1))  (k : VX p l e R s m args below meth c Q D A nL pre blk post (pc + 1) lv (.int (x >>> (y &&& 31)) :: rest)) : VX p l e R s m args below meth c Q D A nL pre blk post pc lv (.int y :: .int x :: rest) := fun H locs ls hP hD hS hl => lv_ishr C.1 C.2.1 hdg (k H locs ls hP hD hS hl)
theorem r_iushr (C : Cx p s m args c cc nL own ad D tys A) {x y : Int32} (hdg : decode cc pc = .ok (.iushr, 1))  (k : VX p l e R s m args below meth c Q D A nL pre blk post (pc + 1) lv (.int ((x.toUInt32 >>> (y.toUInt32 &&& Int32.toUInt32 31)).toInt32) :: rest)) : VX p l e R s m args below meth c Q D A nL pre blk post pc lv (.int y :: .int x :: rest) := fun H locs ls hP hD hS hl => lv_iushr C.1 C.2.1 hdg rfl (k H locs ls hP hD hS hl)
theorem r_idiv (C : Cx p s m args c cc nL own ad D tys A) {x y : Int32} (hdg : decode cc pc = .ok (.idiv, 1)) (hne : ¬ y = 0) (k : VX p l e R s m args below meth c Q D A nL pre blk post (pc + 1) lv (.int (x / y) :: rest)) : VX p l e R s m args below meth c Q D A nL pre blk post pc lv (.int y :: .int x :: rest) := fun H locs ls hP hD hS hl => lv_idiv C.1 C.2.1 hdg hne (k H locs ls hP hD hS hl)
theorem r_irem (C : Cx p s m args c cc nL own ad D tys A) {x y : Int32} (hdg : decode cc pc = .ok (.irem, 1)) (hne : ¬ y = 0) (k : VX p l e R s m args below meth c Q D A nL pre blk post (pc + 1) lv (.int (x - x / y * y) :: rest)) : VX p l e R s m args below meth c Q D A nL pre blk post pc lv (.int y :: .int x :: rest) := fun H locs ls hP hD hS hl => lv_irem C.1 C.2.1 hdg hne (k H locs ls hP hD hS hl)
theorem r_ladd (C : Cx p s m args c cc nL own ad D tys A) {x y : Int64} (hdg : decode cc pc = .ok (.ladd, 1))  (k : VX p l e R s m args below meth c Q D A nL pre blk post (pc + 1) lv (.long (x + y) :: rest)) : VX p l e R s m args below meth c Q D A nL pre blk post pc lv (.long y :: .long x :: rest) := fun H locs ls hP hD hS hl => lv_ladd C.1 C.2.1 hdg (k H locs ls hP hD hS hl)
theorem r_lsub (C : Cx p s m args c cc nL own ad D tys A) {x y : Int64} (hdg : decode cc pc = .ok (.lsub, 1))  (k : VX p l e R s m args below meth c Q D A nL pre blk post (pc + 1) lv (.long (x - y) :: rest)) : VX p l e R s m args below meth c Q D A nL pre blk post pc lv (.long y :: .long x :: rest) := fun H locs ls hP hD hS hl => lv_lsub C.1 C.2.1 hdg (k H locs ls hP hD hS hl)
theorem r_lmul (C : Cx p s m args c cc nL own ad D tys A) {x y : Int64} (hdg : decode cc pc = .ok (.lmul, 1))  (k : VX p l e R s m args below meth c Q D A nL pre blk post (pc + 1) lv (.long (x * y) :: rest)) : VX p l e R s m args below meth c Q D A nL pre blk post pc lv (.long y :: .long x :: rest) := fun H locs ls hP hD hS hl => lv_lmul C.1 C.2.1 hdg (k H locs ls hP hD hS hl)
theorem r_land (C : Cx p s m args c cc nL own ad D tys A) {x y : Int64} (hdg : decode cc pc = .ok (.land, 1))  (k : VX p l e R s m args below meth c Q D A nL pre blk post (pc + 1) lv (.long (x &&& y) :: rest)) : VX p l e R s m args below meth c Q D A nL pre blk post pc lv (.long y :: .long x :: rest) := fun H locs ls hP hD hS hl => lv_land C.1 C.2.1 hdg (k H locs ls hP hD hS hl)
theorem r_lor (C : Cx p s m args c cc nL own ad D tys A) {x y : Int64} (hdg : decode cc pc = .ok (.lor, 1))  (k : VX p l e R s m args below meth c Q D A nL pre blk post (pc + 1) lv (.long (x ||| y) :: rest)) : VX p l e R s m args below meth c Q D A nL pre blk post pc lv (.long y :: .long x :: rest) := fun H locs ls hP hD hS hl => lv_lor C.1 C.2.1 hdg (k H locs ls hP hD hS hl)
theorem r_ldiv (C : Cx p s m args c cc nL own ad D tys A) {x y : Int64} (hdg : decode cc pc = .ok (.ldiv, 1)) (hne : ¬ y = 0) (k : VX p l e R s m args below meth c Q D A nL pre blk post (pc + 1) lv (.long (x / y) :: rest)) : VX p l e R s m args below meth c Q D A nL pre blk post pc lv (.long y :: .long x :: rest) := fun H locs ls hP hD hS hl => lv_ldiv C.1 C.2.1 hdg hne (k H locs ls hP hD hS hl)
theorem r_lrem (C : Cx p s m args c cc nL own ad D tys A) {x y : Int64} (hdg : decode cc pc = .ok (.lrem, 1)) (hne : ¬ y = 0) (k : VX p l e R s m args below meth c Q D A nL pre blk post (pc + 1) lv (.long (x - x / y * y) :: rest)) : VX p l e R s m args below meth c Q D A nL pre blk post pc lv (.long y :: .long x :: rest) := fun H locs ls hP hD hS hl => lv_lrem C.1 C.2.1 hdg hne (k H locs ls hP hD hS hl)
theorem r_lshl (C : Cx p s m args c cc nL own ad D tys A) {x : Int64} {y : Int32} (hdg : decode cc pc = .ok (.lshl, 1))  (k : VX p l e R s m args below meth c Q D A nL pre blk post (pc + 1) lv (.long (x <<< (y.toInt64 &&& 63)) :: rest)) : VX p l e R s m args below meth c Q D A nL pre blk post pc lv (.int y :: .long x :: rest) := fun H locs ls hP hD hS hl => lv_lshl C.1 C.2.1 hdg rfl (k H locs ls hP hD hS hl)
theorem r_lshr (C : Cx p s m args c cc nL own ad D tys A) {x : Int64} {y : Int32} (hdg : decode cc pc = .ok (.lshr, 1))  (k : VX p l e R s m args below meth c Q D A nL pre blk post (pc + 1) lv (.long (x >>> (y.toInt64 &&& 63)) :: rest)) : VX p l e R s m args below meth c Q D A nL pre blk post pc lv (.int y :: .long x :: rest) := fun H locs ls hP hD hS hl => lv_lshr C.1 C.2.1 hdg rfl (k H locs ls hP hD hS hl)
theorem r_lushr (C : Cx p s m args c cc nL own ad D tys A) {x : Int64} {y : Int32} (hdg : decode cc pc = .ok (.lushr, 1))  (k : VX p l e R s m args below meth c Q D A nL pre blk post (pc + 1) lv (.long ((x.toUInt64 >>> (y.toInt64.toUInt64 &&& Int64.toUInt64 63)).toInt64) :: rest)) : VX p l e R s m args below meth c Q D A nL pre blk post pc lv (.int y :: .long x :: rest) := fun H locs ls hP hD hS hl => lv_lushr C.1 C.2.1 hdg rfl (k H locs ls hP hD hS hl)
theorem r_i2l (C : Cx p s m args c cc nL own ad D tys A) {x : Int32} (hdg : decode cc pc = .ok (.i2l, 1))  (k : VX p l e R s m args below meth c Q D A nL pre blk post (pc + 1) lv (.long x.toInt64 :: rest)) : VX p l e R s m args below meth c Q D A nL pre blk post pc lv (.int x :: rest) := fun H locs ls hP hD hS hl => lv_i2l C.1 C.2.1 hdg rfl (k H locs ls hP hD hS hl)
theorem r_l2i (C : Cx p s m args c cc nL own ad D tys A) {x : Int64} (hdg : decode cc pc = .ok (.l2i, 1))  (k : VX p l e R s m args below meth c Q D A nL pre blk post (pc + 1) lv (.int x.toInt32 :: rest)) : VX p l e R s m args below meth c Q D A nL pre blk post pc lv (.long x :: rest) := fun H locs ls hP hD hS hl => lv_l2i C.1 C.2.1 hdg rfl (k H locs ls hP hD hS hl)
theorem r_i2b (C : Cx p s m args c cc nL own ad D tys A) {x : Int32} (hdg : decode cc pc = .ok (.i2b, 1))  (k : VX p l e R s m args below meth c Q D A nL pre blk post (pc + 1) lv (.int x.toInt8.toInt32 :: rest)) : VX p l e R s m args below meth c Q D A nL pre blk post pc lv (.int x :: rest) := fun H locs ls hP hD hS hl => lv_i2b C.1 C.2.1 hdg rfl (k H locs ls hP hD hS hl)
theorem r_i2s (C : Cx p s m args c cc nL own ad D tys A) {x : Int32} (hdg : decode cc pc = .ok (.i2s, 1))  (k : VX p l e R s m args below meth c Q D A nL pre blk post (pc + 1) lv (.int x.toInt16.toInt32 :: rest)) : VX p l e R s m args below meth c Q D A nL pre blk post pc lv (.int x :: rest) := fun H locs ls hP hD hS hl => lv_i2s C.1 C.2.1 hdg rfl (k H locs ls hP hD hS hl)
theorem r_lcmp (C : Cx p s m args c cc nL own ad D tys A) {x y : Int64} (hdg : decode cc pc = .ok (.lcmp, 1))  (k : VX p l e R s m args below meth c Q D A nL pre blk post (pc + 1) lv (.int (lg_cmp x y) :: rest)) : VX p l e R s m args below meth c Q D A nL pre blk post pc lv (.long y :: .long x :: rest) := fun H locs ls hP hD hS hl => W.lcmp C.1 C.2.1 hdg (k H locs ls hP hD hS hl)
theorem r_dup (C : Cx p s m args c cc nL own ad D tys A) {va : Value} (hdg : decode cc pc = .ok (.dup, 1)) (hva : va.category = 1) (k : VX p l e R s m args below meth c Q D A nL pre blk post (pc + 1) lv (va :: va :: rest)) : VX p l e R s m args below meth c Q D A nL pre blk post pc lv (va :: rest) := fun H locs ls hP hD hS hl => lv_dup C.1 C.2.1 hdg hva (k H locs ls hP hD hS hl)
theorem r_pop (C : Cx p s m args c cc nL own ad D tys A) {va : Value} (hdg : decode cc pc = .ok (.pop, 1)) (hva : va.category = 1) (k : VX p l e R s m args below meth c Q D A nL pre blk post (pc + 1) lv (rest)) : VX p l e R s m args below meth c Q D A nL pre blk post pc lv (va :: rest) := fun H locs ls hP hD hS hl => lv_pop C.1 C.2.1 hdg hva (k H locs ls hP hD hS hl)
theorem r_dup2 (C : Cx p s m args c cc nL own ad D tys A) {va vb : Value} (hdg : decode cc pc = .ok (.dup2, 1)) (hva : va.category = 1) (hvb : vb.category = 1) (k : VX p l e R s m args below meth c Q D A nL pre blk post (pc + 1) lv (va :: vb :: va :: vb :: rest)) : VX p l e R s m args below meth c Q D A nL pre blk post pc lv (va :: vb :: rest) := fun H locs ls hP hD hS hl => lv_dup2_11 C.1 C.2.1 hdg hva hvb (k H locs ls hP hD hS hl)
theorem r_goto (C : Cx p s m args c cc nL own ad D tys A) {off : Int} (tgt : Nat) (hdg : decode cc pc = .ok (.goto off, 3)) (ht : (pc : Int) + off = (tgt : Int)) (k : VX p l e R s m args below meth c Q D A nL pre blk post tgt lv (rest)) : VX p l e R s m args below meth c Q D A nL pre blk post pc lv (rest) := fun H locs ls hP hD hS hl => lv_goto C.1 C.2.1 hdg ht (k H locs ls hP hD hS hl)
theorem r_if_eq (C : Cx p s m args c cc nL own ad D tys A) {x : Int32} {off : Int} (tgt : Nat) (hdg : decode cc pc = .ok (.ifCond .eq off, 3)) (ht : (pc : Int) + off = (tgt : Int)) (kt : x = 0 → VX p l e R s m args below meth c Q D A nL pre blk post tgt lv rest) (kf : ¬ x = 0 → VX p l e R s m args below meth c Q D A nL pre blk post (pc + 3) lv rest) : VX p l e R s m args below meth c Q D A nL pre blk post pc lv (.int x :: rest) := fun H locs ls hP hD hS hl => lv_if_eq C.1 C.2.1 hdg ht (fun h => kt h H locs ls hP hD hS hl) (fun h => kf h H locs ls hP hD hS hl)
theorem r_icmp_eq (C : Cx p s m args c cc nL own ad D tys A) {x y : Int32} {off : Int} (tgt : Nat) (hdg : decode cc pc = .ok (.if_icmp .eq off, 3)) (ht : (pc : Int) + off = (tgt : Int)) (kt : x = y → VX p l e R s m args below meth c Q D A nL pre blk post tgt lv rest) (kf : ¬ x = y → VX p l e R s m args below meth c Q D A nL pre blk post (pc + 3) lv rest) : VX p l e R s m args below meth c Q D A nL pre blk post pc lv (.int y :: .int x :: rest) := fun H locs ls hP hD hS hl => lv_icmp_eq C.1 C.2.1 hdg ht (fun h => kt h H locs ls hP hD hS hl) (fun h => kf h H locs ls hP hD hS hl)
theorem r_if_ne (C : Cx p s m args c cc nL own ad D tys A) {x : Int32} {off : Int} (tgt : Nat) (hdg : decode cc pc = .ok (.ifCond .ne off, 3)) (ht : (pc : Int) + off = (tgt : Int)) (kt : ¬ x = 0 → VX p l e R s m args below meth c Q D A nL pre blk post tgt lv rest) (kf : x = 0 → VX p l e R s m args below meth c Q D A nL pre blk post (pc + 3) lv rest) : VX p l e R s m args below meth c Q D A nL pre blk post pc lv (.int x :: rest) := fun H locs ls hP hD hS hl => lv_if_ne C.1 C.2.1 hdg ht (fun h => kt h H locs ls hP hD hS hl) (fun h => kf h H locs ls hP hD hS hl)
theorem r_icmp_ne (C : Cx p s m args c cc nL own ad D tys A) {x y : Int32} {off : Int} (tgt : Nat) (hdg : decode cc pc = .ok (.if_icmp .ne off, 3)) (ht : (pc : Int) + off = (tgt : Int)) (kt : ¬ x = y → VX p l e R s m args below meth c Q D A nL pre blk post tgt lv rest) (kf : x = y → VX p l e R s m args below meth c Q D A nL pre blk post (pc + 3) lv rest) : VX p l e R s m args below meth c Q D A nL pre blk post pc lv (.int y :: .int x :: rest) := fun H locs ls hP hD hS hl => lv_icmp_ne C.1 C.2.1 hdg ht (fun h => kt h H locs ls hP hD hS hl) (fun h => kf h H locs ls hP hD hS hl)
theorem r_if_lt (C : Cx p s m args c cc nL own ad D tys A) {x : Int32} {off : Int} (tgt : Nat) (hdg : decode cc pc = .ok (.ifCond .lt off, 3)) (ht : (pc : Int) + off = (tgt : Int)) (kt : x < 0 → VX p l e R s m args below meth c Q D A nL pre blk post tgt lv rest) (kf : ¬ x < 0 → VX p l e R s m args below meth c Q D A nL pre blk post (pc + 3) lv rest) : VX p l e R s m args below meth c Q D A nL pre blk post pc lv (.int x :: rest) := fun H locs ls hP hD hS hl => lv_if_lt C.1 C.2.1 hdg ht (fun h => kt h H locs ls hP hD hS hl) (fun h => kf h H locs ls hP hD hS hl)
theorem r_icmp_lt (C : Cx p s m args c cc nL own ad D tys A) {x y : Int32} {off : Int} (tgt : Nat) (hdg : decode cc pc = .ok (.if_icmp .lt off, 3)) (ht : (pc : Int) + off = (tgt : Int)) (kt : x < y → VX p l e R s m args below meth c Q D A nL pre blk post tgt lv rest) (kf : ¬ x < y → VX p l e R s m args below meth c Q D A nL pre blk post (pc + 3) lv rest) : VX p l e R s m args below meth c Q D A nL pre blk post pc lv (.int y :: .int x :: rest) := fun H locs ls hP hD hS hl => lv_icmp_lt C.1 C.2.1 hdg ht (fun h => kt h H locs ls hP hD hS hl) (fun h => kf h H locs ls hP hD hS hl)
theorem r_if_ge (C : Cx p s m args c cc nL own ad D tys A) {x : Int32} {off : Int} (tgt : Nat) (hdg : decode cc pc = .ok (.ifCond .ge off, 3)) (ht : (pc : Int) + off = (tgt : Int)) (kt : 0 ≤ x → VX p l e R s m args below meth c Q D A nL pre blk post tgt lv rest) (kf : ¬ 0 ≤ x → VX p l e R s m args below meth c Q D A nL pre blk post (pc + 3) lv rest) : VX p l e R s m args below meth c Q D A nL pre blk post pc lv (.int x :: rest) := fun H locs ls hP hD hS hl => lv_if_ge C.1 C.2.1 hdg ht (fun h => kt h H locs ls hP hD hS hl) (fun h => kf h H locs ls hP hD hS hl)
theorem r_icmp_ge (C : Cx p s m args c cc nL own ad D tys A) {x y : Int32} {off : Int} (tgt : Nat) (hdg : decode cc pc = .ok (.if_icmp .ge off, 3)) (ht : (pc : Int) + off = (tgt : Int)) (kt : y ≤ x → VX p l e R s m args below meth c Q D A nL pre blk post tgt lv rest) (kf : ¬ y ≤ x → VX p l e R s m args below meth c Q D A nL pre blk post (pc + 3) lv rest) : VX p l e R s m args below meth c Q D A nL pre blk post pc lv (.int y :: .int x :: rest) := fun H locs ls hP hD hS hl => lv_icmp_ge C.1 C.2.1 hdg ht (fun h => kt h H locs ls hP hD hS hl) (fun h => kf h H locs ls hP hD hS hl)
theorem r_if_gt (C : Cx p s m args c cc nL own ad D tys A) {x : Int32} {off : Int} (tgt : Nat) (hdg : decode cc pc = .ok (.ifCond .gt off, 3)) (ht : (pc : Int) + off = (tgt : Int)) (kt : 0 < x → VX p l e R s m args below meth c Q D A nL pre blk post tgt lv rest) (kf : ¬ 0 < x → VX p l e R s m args below meth c Q D A nL pre blk post (pc + 3) lv rest) : VX p l e R s m args below meth c Q D A nL pre blk post pc lv (.int x :: rest) := fun H locs ls hP hD hS hl => lv_if_gt C.1 C.2.1 hdg ht (fun h => kt h H locs ls hP hD hS hl) (fun h => kf h H locs ls hP hD hS hl)
theorem r_icmp_gt (C : Cx p s m args c cc nL own ad D tys A) {x y : Int32} {off : Int} (tgt : Nat) (hdg : decode cc pc = .ok (.if_icmp .gt off, 3)) (ht : (pc : Int) + off = (tgt : Int)) (kt : y < x → VX p l e R s m args below meth c Q D A nL pre blk post tgt lv rest) (kf : ¬ y < x → VX p l e R s m args below meth c Q D A nL pre blk post (pc + 3) lv rest) : VX p l e R s m args below meth c Q D A nL pre blk post pc lv (.int y :: .int x :: rest) := fun H locs ls hP hD hS hl => lv_icmp_gt C.1 C.2.1 hdg ht (fun h => kt h H locs ls hP hD hS hl) (fun h => kf h H locs ls hP hD hS hl)
theorem r_if_le (C : Cx p s m args c cc nL own ad D tys A) {x : Int32} {off : Int} (tgt : Nat) (hdg : decode cc pc = .ok (.ifCond .le off, 3)) (ht : (pc : Int) + off = (tgt : Int)) (kt : x ≤ 0 → VX p l e R s m args below meth c Q D A nL pre blk post tgt lv rest) (kf : ¬ x ≤ 0 → VX p l e R s m args below meth c Q D A nL pre blk post (pc + 3) lv rest) : VX p l e R s m args below meth c Q D A nL pre blk post pc lv (.int x :: rest) := fun H locs ls hP hD hS hl => lv_if_le C.1 C.2.1 hdg ht (fun h => kt h H locs ls hP hD hS hl) (fun h => kf h H locs ls hP hD hS hl)
theorem r_icmp_le (C : Cx p s m args c cc nL own ad D tys A) {x y : Int32} {off : Int} (tgt : Nat) (hdg : decode cc pc = .ok (.if_icmp .le off, 3)) (ht : (pc : Int) + off = (tgt : Int)) (kt : x ≤ y → VX p l e R s m args below meth c Q D A nL pre blk post tgt lv rest) (kf : ¬ x ≤ y → VX p l e R s m args below meth c Q D A nL pre blk post (pc + 3) lv rest) : VX p l e R s m args below meth c Q D A nL pre blk post pc lv (.int y :: .int x :: rest) := fun H locs ls hP hD hS hl => lv_icmp_le C.1 C.2.1 hdg ht (fun h => kt h H locs ls hP hD hS hl) (fun h => kf h H locs ls hP hD hS hl)
theorem r_tableIn (C : Cx p s m args c cc nL own ad D tys A) {dflt lo hi : Int} {offs : Array Int} {x : Int32} {off : Int} (len : Nat) (tgt : Nat) (hdg : decode cc pc = .ok (.tableswitch dflt lo hi offs, len)) (h1 : ¬ x.toInt < lo) (h2 : ¬ hi < x.toInt) (ho : offs[(x.toInt - lo).toNat]? = some off) (ht : (pc : Int) + off = (tgt : Int)) (k : VX p l e R s m args below meth c Q D A nL pre blk post tgt lv (rest)) : VX p l e R s m args below meth c Q D A nL pre blk post pc lv (.int x :: rest) := fun H locs ls hP hD hS hl => lv_tableIn C.1 C.2.1 hdg h1 h2 ho ht (k H locs ls hP hD hS hl)
theorem r_tableOut (C : Cx p s m args c cc nL own ad D tys A) {dflt lo hi : Int} {offs : Array Int} {x : Int32} (len : Nat) (tgt : Nat) (hdg : decode cc pc = .ok (.tableswitch dflt lo hi offs, len)) (h1 : x.toInt < lo ∨ hi < x.toInt) (ht : (pc : Int) + dflt = (tgt : Int)) (k : VX p l e R s m args below meth c Q D A nL pre blk post tgt lv (rest)) : VX p l e R s m args below meth c Q D A nL pre blk post pc lv (.int x :: rest) := fun H locs ls hP hD hS hl => lv_tableOut C.1 C.2.1 hdg h1 ht (k H locs ls hP hD hS hl)
theorem r_lookup (C : Cx p s m args c cc nL own ad D tys A) {dflt : Int} {ps : Array (Int × Int)} {x : Int32} {off : Int} (len : Nat) (tgt : Nat) (hdg : decode cc pc = .ok (.lookupswitch dflt ps, len)) (hp : (ps.toList.zip (ps.toList.drop 1)).all (fun (a, next) => a.1 < next.1) = true) (ho : Op.lookupswitch.offset ps.toList dflt x.toInt = off) (ht : (pc : Int) + off = (tgt : Int)) (k : VX p l e R s m args below meth c Q D A nL pre blk post tgt lv (rest)) : VX p l e R s m args below meth c Q D A nL pre blk post pc lv (.int x :: rest) := fun H locs ls hP hD hS hl => lv_lookup C.1 C.2.1 hdg hp ho ht (k H locs ls hP hD hS hl)
/-- the same number, otherwise said -/
theorem r_eqi {x y : Int32} (h : x = y) (k : VX p l e R s m args below meth c Q D A nL pre blk post pc lv (.int y :: rest)) : VX p l e R s m args below meth c Q D A nL pre blk post pc lv (.int x :: rest) := h ▸ k
theorem r_eql {x y : Int64} (h : x = y) (k : VX p l e R s m args below meth c Q D A nL pre blk post pc lv (.long y :: rest)) : VX p l e R s m args below meth c Q D A nL pre blk post pc lv (.long x :: rest) := h ▸ k
theorem r_pick {st : List Value} {lv' : List (Nat × Value)} (ks : List Nat) (h : lv_pick lv ks = lv') (k : VX p l e R s m args below meth c Q D A nL pre blk post pc lv' st) : VX p l e R s m args below meth c Q D A nL pre blk post pc lv st := fun H locs ls hP hD hS hl => k H locs ls hP hD hS (lv_sub hl ks h)
theorem r_lv {st : List Value} {lv' : List (Nat × Value)} (h : lv = lv') (k : VX p l e R s m args below meth c Q D A nL pre blk post pc lv' st) : VX p l e R s m args below meth c Q D A nL pre blk post pc lv st := h ▸ k
theorem r_blk {st : List Value} (h : blk = blk') (k : VX p l e R s m args below meth c Q D A nL pre blk' post pc lv st) : VX p l e R s m args below meth c Q D A nL pre blk post pc lv st := h ▸ k
/-- an array's cell otherwise said, where nobody can look the same -/
theorem r_recell (q0 : Nat) {st : List Value} {cA : ClassId} {n a : Nat} {f g : Nat → Int32} (ha : blk[q0]? = some (a, .inl (cA, n, .inl f))) (hfg : ∀ j, j < n → f j = g j) (hb2 : blk.set q0 (a, .inl (cA, n, .inl g)) = blk') (kk : VX p l e R s m args below meth c Q D A nL pre blk' post pc lv st) : VX p l e R s m args below meth c Q D A nL pre blk post pc lv st := fun H locs ls hP hD hS hl => by
  have hlt : q0 < blk.length := (List.getElem?_eq_some_iff.mp ha).1
  have hc : va_at D vwCl (a, .inl (cA, n, .inl g)) H := by
    have h1 := hP _ _ (bk_at (pre := pre) (post := post) ha)
    have h2 : vp_cell cA (n, .inl f) = vp_cell cA (n, .inl g) := by
      rw [vp_cell_i, vp_cell_i]
      unfold arrV
      congr 1
      apply Array.ext
      · simp
      · intro i h3 h4
        simp only [Array.getElem_ofFn]
        rw [hfg i (by simpa using h3)]
    show H[a]? = some (vp_cell cA (n, .inl g))
    rw [← h2]
    exact h1
  have hP2 := va_P.set hP hD (bk_at ha) hc (fun _ _ => rfl)
  have hD2 := va_D.set (e := .inl (cA, n, .inl g)) hD (bk_at ha)
  rw [bk_set hlt, hb2] at hP2 hD2
  exact kk H locs ls hP2 hD2 hS hl
theorem r_iret (C : Cx p s m args c cc nL own ad D tys A) {rt : FieldType} (hr : meth.sig.returnType = some rt) (hlk : meth.locks = false) {v r : Int32} (hdg : decode cc pc = .ok (.ireturn, 1)) (hn : narrow rt (.int v) = .int v) (hv : v = r) (hw : blk = blk') : VX p l e R s m args below meth c (QI below args s D tys A r (pre ++ (blk' ++ post))) D A nL pre blk post pc lv [.int v] := fun H locs ls hP hD hS hl => W.zret C.1 C.2.1 hr hn (fun t ht hW => ⟨⟨v, (), rfl, hv, by rw [ht, ← hw]; exact hP, va_K.moved hW.alike C.2.2.2.2.2.1, by rw [← hw]; exact hD⟩, hS.F ht⟩) hS.2.2 hdg hlk
theorem r_lret (C : Cx p s m args c cc nL own ad D tys A) (hr : meth.sig.returnType = some .long) (hlk : meth.locks = false) {v r : Int64} (hdg : decode cc pc = .ok (.lreturn, 1)) (hv : v = r) (hw : blk = blk') : VX p l e R s m args below meth c (QL below args s D tys A r (pre ++ (blk' ++ post))) D A nL pre blk post pc lv [.long v] := fun H locs ls hP hD hS hl => W.lret C.1 C.2.1 hr (fun t ht hW => ⟨⟨v, (), rfl, hv, by rw [ht, ← hw]; exact hP, va_K.moved hW.alike C.2.2.2.2.2.1, by rw [← hw]; exact hD⟩, hS.F ht⟩) hS.2.2 hdg hlk
theorem r_vret (C : Cx p s m args c cc nL own ad D tys A) (hr : meth.sig.returnType = none) (hlk : meth.locks = false) (hdg : decode cc pc = .ok (.return_, 1)) (hw : blk = blk') : VX p l e R s m args below meth c (QV below args s D tys A (pre ++ (blk' ++ post))) D A nL pre blk post pc lv [] := fun H locs ls hP hD hS hl => W.vret C.1 C.2.1 hr (fun t ht hW => ⟨⟨(), rfl, trivial, by rw [ht, ← hw]; exact hP, va_K.moved hW.alike C.2.2.2.2.2.1, by rw [← hw]; exact hD⟩, hS.F ht⟩) hS.2.2 hdg hlk
theorem r_get (C : Cx p s m args c cc nL own ad D tys A) {ref Cn : String} {T : u_T} {N ci index a : Nat} (hin : ∀ w ∈ u_ws Cn T N, w ∈ ALLW) (q0 : Nat) {fs : List Value} (he : blk[q0]? = some (a, .inr (ci, fs))) (hc : vwCl[ci]? = some (Cn, T, N)) (k : Nat) (hk : k < N) (hlink : Cond.fieldLink own index ref (T k).2.1 (T k).2.2.1 ∈ ALLW) (href : (T k).1 = ref) {v : Value} (hv : fs[k]? = some v) (hdg : decode cc pc = .ok (.getfield index, 3)) (kk : VX p l e R s m args below meth c Q D A nL pre blk post (pc + 3) lv (v :: rest)) : VX p l e R s m args below meth c Q D A nL pre blk post pc lv (.ref a :: rest) := fun H locs ls hP hD hS hl =>
  va_get C.1 C.2.1 C.2.2.2.2.1 hin C.2.2.2.1 C.2.2.2.2.2.1 hP (pre.length + q0) (bk_at he) hc k hk (C.2.2.2.2.1 _ hlink) (fun _ h => href ▸ h) hv hdg (kk H locs ls hP hD hS hl)
theorem r_put (C : Cx p s m args c cc nL own ad D tys A) {ref Cn : String} {T : u_T} {N ci index a : Nat} (hin : ∀ w ∈ u_ws Cn T N, w ∈ ALLW) (ty0 : Nat → FieldType) (hty : ∀ k, k < N → parseFieldDescriptor (T k).2.2.1 = some (ty0 k)) (hnm : ∀ a, a < N → ∀ b, b < N → a ≠ b → (T a).2.1 ≠ (T b).2.1) (q0 : Nat) {fs : List Value} (he : blk[q0]? = some (a, .inr (ci, fs))) (hc : vwCl[ci]? = some (Cn, T, N)) (k : Nat) (hk : k < N) (hlink : Cond.fieldLink own index ref (T k).2.1 (T k).2.2.1 ∈ ALLW) (href : (T k).1 = ref) (hfin : (T k).2.2.2 = false) {ty : FieldType} {v : Value} (hd : parseFieldDescriptor (T k).2.2.1 = some ty) (hn : narrow ty v = v) (hfit : fits ty v = true) (hl : k < fs.length) (hdg : decode cc pc = .ok (.putfield index, 3)) (hb2 : blk.set q0 (a, .inr (ci, fs.set k v)) = blk') (kk : VX p l e R s m args below meth c Q D A nL pre blk' post (pc + 3) lv rest) : VX p l e R s m args below meth c Q D A nL pre blk post pc lv (v :: .ref a :: rest) := fun H locs ls hP hD hS hl2 => by
  have hlt : q0 < blk.length := (List.getElem?_eq_some_iff.mp he).1
  refine va_put C.1 C.2.1 C.2.2.2.2.1 hin ty0 hty hnm C.2.2.2.1 C.2.2.2.2.2.1 hP hD hS (pre.length + q0) (bk_at he) hc k hk (C.2.2.2.2.1 _ hlink) (fun _ h => href ▸ h) hfin hd hn hfit hl hdg (fun H1 locs1 hP1 hD1 hS1 => ?_)
  rw [bk_set hlt, hb2] at hP1 hD1
  exact kk H1 locs1 ls hP1 hD1 hS1 hl2
theorem r_iald (C : Cx p s m args c cc nL own ad D tys A) (q0 t0 : Nat) {cA : ClassId} {n a : Nat} {f : Nat → Int32} (ha : blk[q0]? = some (a, .inl (cA, n, .inl f))) (ht : tys[t0]? = some (cA, .int)) {i : Int32} (j : Nat) (hi : i = nI j) (hj : j < n) (hn : n < 2 ^ 31) (hdg : decode cc pc = .ok (.iaload, 1)) (kk : VX p l e R s m args below meth c Q D A nL pre blk post (pc + 1) lv (.int (f j) :: rest)) : VX p l e R s m args below meth c Q D A nL pre blk post pc lv (.int i :: .ref a :: rest) := fun H locs ls hP hD hS hl => by
  subst hi
  refine va_iald C.1 C.2.1 C.2.2.2.2.2.1 hP (pre.length + q0) t0 (bk_at ha) ht (vp_in_nI hj hn) hdg ?_
  rw [nI_clamp (Nat.lt_trans hj hn)]
  exact kk H locs ls hP hD hS hl
theorem r_bald (C : Cx p s m args c cc nL own ad D tys A) (q0 t0 : Nat) {cA : ClassId} {n a : Nat} {f : Nat → Int32} (ha : blk[q0]? = some (a, .inl (cA, n, .inl f))) (ht : tys[t0]? = some (cA, .byte)) {i : Int32} (j : Nat) (hi : i = nI j) (hj : j < n) (hn : n < 2 ^ 31) (hdg : decode cc pc = .ok (.baload, 1)) (kk : VX p l e R s m args below meth c Q D A nL pre blk post (pc + 1) lv (.int (f j) :: rest)) : VX p l e R s m args below meth c Q D A nL pre blk post pc lv (.int i :: .ref a :: rest) := fun H locs ls hP hD hS hl => by
  subst hi
  refine va_bald C.1 C.2.1 C.2.2.2.2.2.1 hP (pre.length + q0) t0 (bk_at ha) ht (vp_in_nI hj hn) hdg ?_
  rw [nI_clamp (Nat.lt_trans hj hn)]
  exact kk H locs ls hP hD hS hl
theorem r_lald (C : Cx p s m args c cc nL own ad D tys A) (q0 t0 : Nat) {cA : ClassId} {n a : Nat} {f : Nat → Int64} (ha : blk[q0]? = some (a, .inl (cA, n, .inr (.inl f)))) (ht : tys[t0]? = some (cA, .long)) {i : Int32} (j : Nat) (hi : i = nI j) (hj : j < n) (hn : n < 2 ^ 31) (hdg : decode cc pc = .ok (.laload, 1)) (kk : VX p l e R s m args below meth c Q D A nL pre blk post (pc + 1) lv (.long (f j) :: rest)) : VX p l e R s m args below meth c Q D A nL pre blk post pc lv (.int i :: .ref a :: rest) := fun H locs ls hP hD hS hl => by
  subst hi
  refine va_lald C.1 C.2.1 C.2.2.2.2.2.1 hP (pre.length + q0) t0 (bk_at ha) ht (vp_in_nI hj hn) hdg ?_
  rw [nI_clamp (Nat.lt_trans hj hn)]
  exact kk H locs ls hP hD hS hl
theorem r_iast (C : Cx p s m args c cc nL own ad D tys A) (q0 t0 : Nat) {cA : ClassId} {n a : Nat} {f : Nat → Int32} (ha : blk[q0]? = some (a, .inl (cA, n, .inl f))) (ht : tys[t0]? = some (cA, .int)) {i : Int32} {x : Int32} (j : Nat) (hi : i = nI j) (hj : j < n) (hn : n < 2 ^ 31) (hdg : decode cc pc = .ok (.iastore, 1)) (hb2 : blk.set q0 (a, .inl (cA, n, .inl (upd f j x))) = blk') (kk : VX p l e R s m args below meth c Q D A nL pre blk' post (pc + 1) lv rest) : VX p l e R s m args below meth c Q D A nL pre blk post pc lv (.int x :: .int i :: .ref a :: rest) := fun H locs ls hP hD hS hl => by
  subst hi
  have hlt : q0 < blk.length := (List.getElem?_eq_some_iff.mp ha).1
  refine va_iast C.1 C.2.1 C.2.2.2.2.2.1 hP hD hS (pre.length + q0) t0 (bk_at ha) ht (vp_in_nI hj hn) hdg (fun H1 locs1 hP1 hD1 hS1 => ?_)
  rw [nI_clamp (Nat.lt_trans hj hn), bk_set hlt, hb2] at hP1 hD1
  exact kk H1 locs1 ls hP1 hD1 hS1 hl
theorem r_bast (C : Cx p s m args c cc nL own ad D tys A) (q0 t0 : Nat) {cA : ClassId} {n a : Nat} {f : Nat → Int32} (ha : blk[q0]? = some (a, .inl (cA, n, .inl f))) (ht : tys[t0]? = some (cA, .byte)) {i : Int32} {x : Int32} (j : Nat) (hi : i = nI j) (hj : j < n) (hn : n < 2 ^ 31) (hdg : decode cc pc = .ok (.bastore, 1)) (hb2 : blk.set q0 (a, .inl (cA, n, .inl (upd f j (vp_nar .byte x)))) = blk') (kk : VX p l e R s m args below meth c Q D A nL pre blk' post (pc + 1) lv rest) : VX p l e R s m args below meth c Q D A nL pre blk post pc lv (.int x :: .int i :: .ref a :: rest) := fun H locs ls hP hD hS hl => by
  subst hi
  have hlt : q0 < blk.length := (List.getElem?_eq_some_iff.mp ha).1
  refine va_bast C.1 C.2.1 C.2.2.2.2.2.1 hP hD hS (pre.length + q0) t0 (bk_at ha) ht (vp_in_nI hj hn) hdg (fun H1 locs1 hP1 hD1 hS1 => ?_)
  rw [nI_clamp (Nat.lt_trans hj hn), bk_set hlt, hb2] at hP1 hD1
  exact kk H1 locs1 ls hP1 hD1 hS1 hl
theorem r_last (C : Cx p s m args c cc nL own ad D tys A) (q0 t0 : Nat) {cA : ClassId} {n a : Nat} {f : Nat → Int64} (ha : blk[q0]? = some (a, .inl (cA, n, .inr (.inl f)))) (ht : tys[t0]? = some (cA, .long)) {i : Int32} {x : Int64} (j : Nat) (hi : i = nI j) (hj : j < n) (hn : n < 2 ^ 31) (hdg : decode cc pc = .ok (.lastore, 1)) (hb2 : blk.set q0 (a, .inl (cA, n, .inr (.inl (vp_updL f j x)))) = blk') (kk : VX p l e R s m args below meth c Q D A nL pre blk' post (pc + 1) lv rest) : VX p l e R s m args below meth c Q D A nL pre blk post pc lv (.long x :: .int i :: .ref a :: rest) := fun H locs ls hP hD hS hl => by
  subst hi
  have hlt : q0 < blk.length := (List.getElem?_eq_some_iff.mp ha).1
  refine va_last C.1 C.2.1 C.2.2.2.2.2.1 hP hD hS (pre.length + q0) t0 (bk_at ha) ht (vp_in_nI hj hn) hdg (fun H1 locs1 hP1 hD1 hS1 => ?_)
  rw [nI_clamp (Nat.lt_trans hj hn), bk_set hlt, hb2] at hP1 hD1
  exact kk H1 locs1 ls hP1 hD1 hS1 hl
/-- what a call of y wants of the tables -/
def MV (y : MethodName) (bytes : ByteArray) (maxL : Nat) (ret : Option FieldType) (n : Nat) : Prop := Cond.instanceMethod y ∈ ALLW ∧ Cond.selects y.cls y y ∈ ALLW ∧ Cond.initialized y.cls ∈ ALLW ∧ Cond.code y bytes maxL ret ∈ ALLW ∧ y.cls ≠ "java/lang/invoke/MethodHandle" ∧ y.cls ≠ "java/lang/invoke/VarHandle" ∧ (parseMethodDescriptor y.desc).map (fun d => d.parameters.length) = some n
def MS (y : MethodName) (bytes : ByteArray) (maxL : Nat) (ret : Option FieldType) (n : Nat) : Prop := Cond.static y ∈ ALLW ∧ Cond.initialized y.cls ∈ ALLW ∧ Cond.code y bytes maxL ret ∈ ALLW ∧ y.cls ≠ "java/lang/invoke/MethodHandle" ∧ y.cls ≠ "java/lang/invoke/VarHandle" ∧ (parseMethodDescriptor y.desc).map (fun d => d.parameters.length) = some n
theorem gw_all {w : Cond} (h : w ∈ ALLW) : w ∈ ALLW ∧ ((w.onTables && w.keeps) = true ∨ ∃ ty, w = .arrayClass ty) := ⟨h, good_of_word (List.mem_filter.mp h).2⟩
theorem gw_V {own : String} {idx : Nat} {y : MethodName} {bytes : ByteArray} {maxL : Nat} {ret : Option FieldType} {n : Nat} (h : MV y bytes maxL ret n) (hl : Cond.methodLink own idx y ∈ ALLW) : GoodIn ALLW (wsV own idx y.cls y (.code y bytes maxL ret :: ALLW)) := by
  intro w hw
  apply gw_all
  simp only [wsV, List.cons_append, List.nil_append, List.mem_cons] at hw
  rcases hw with rfl | rfl | rfl | rfl | rfl | hw
  · exact hl
  · exact h.1
  · exact h.2.1
  · exact h.2.2.1
  · exact h.2.2.2.1
  · exact hw
theorem gw_S {own : String} {idx : Nat} {y : MethodName} {bytes : ByteArray} {maxL : Nat} {ret : Option FieldType} {n : Nat} (h : MS y bytes maxL ret n) (hl : Cond.methodLink own idx y ∈ ALLW) : GoodIn ALLW (va_wsS own idx y (.code y bytes maxL ret :: ALLW)) := by
  intro w hw
  apply gw_all
  simp only [va_wsS, List.cons_append, List.nil_append, List.mem_cons] at hw
  rcases hw with rfl | rfl | rfl | rfl | hw
  · exact hl
  · exact h.1
  · exact h.2.1
  · exact h.2.2.1
  · exact hw
theorem pre_of (C : Cx p s m args c cc nL own ad D tys A) {H : Heap} {locs : List Loc} {w : va_W} {av : List Value} (hP : va_P D vwCl w H) (hD : va_D A w) (hS : va_S A s.heap H locs) : PreS s H (cP ad D tys w H.size av) av := by
  refine ⟨cP_blind, fun U hU hW => ⟨rfl, by rw [hU], by rw [hU]; exact hP, va_K.moved hW.alike C.2.2.2.2.2.1, hD.weaken (fun _ _ _ _ => trivial), ?_⟩⟩
  rw [hU]
  refine SF.warm hW (((C.2.2.2.2.2.2.1).kept hS.2.1).narrow ?_)
  intro q h
  rcases h with ⟨k, e, h⟩ | h
  · exact hD.2 k (q, e) h
  · exact C.2.2.2.2.2.2.2 q (Nat.le_trans hS.1 h)
theorem A_of (C : Cx p s m args c cc nL own ad D tys A) {H : Heap} {locs : List Loc} {w : va_W} (hD : va_D A w) (hS : va_S A s.heap H locs) : ∀ q, va_A w H.size q → A q := by
  intro q h
  rcases h with ⟨k, e, h⟩ | h
  · exact hD.2 k (q, e) h
  · exact C.2.2.2.2.2.2.2 q (Nat.le_trans hS.1 h)
theorem rc_Vi (C : Cx p s m args c cc nL own ad D tys A) {y : MethodName} {bytes : ByteArray} {maxL index n : Nat} {rt : FieldType} {r : Int32} {rm : Room} {pre' cb cb' post' : va_W} {b ci q0 : Nat} {As : List Value} {fs : List Value} {st : List Value} {cl : vw_C} (hM : CTi l y bytes maxL rt rm ad D tys (pre' ++ (cb ++ post')) (.ref b :: As) r (pre' ++ (cb' ++ post'))) (hmv : MV y bytes maxL (some rt) n) (hl : Cond.methodLink own index y ∈ ALLW) (hn : As.length = n) (hR : rm.frames + 1 ≤ R.frames ∧ 8 + (maxL + 11) + rm.locals ≤ R.locals) (hrm : rm.cells = 0 ∧ rm.slots = 0) (hb : cb[q0]? = some (b, .inr (ci, fs))) (hci : vwCl[ci]? = some cl) (hcl : cl.1 = y.cls) (hw : pre ++ (blk ++ post) = pre' ++ (cb ++ post')) (hw2 : pre' ++ (cb' ++ post') = pre ++ (blk' ++ post)) (hst : st = As.reverse ++ .ref b :: rest) (hro : (rest.map fun v => v.category).sum ≤ 8) (hdg : decode cc pc = .ok (.invokevirtual index, 3)) (kk : VX p l e R s m args below meth c Q D A nL pre blk' post (pc + 3) lv (.int r :: rest)) : VX p l e R s m args below meth c Q D A nL pre blk post pc lv st := fun H locs ls hP hD hS hl2 => by
  subst hst
  rw [hw] at hP hD
  have hrecv : ∃ cell : Cell, H[b]? = some cell ∧ cell.vm.isStatics = false ∧ s.vm.findClass y.cls = some cell.cls := by
    rw [← hcl]
    exact va_recv C.2.2.2.2.2.1 hP hci (bk_at hb)
  have hp := pre_of (av := .ref b :: As) C hP hD hS
  refine va_calli (va_runV ⟨C.1, C.2.1, C.2.2.1, C.2.2.2.1, C.2.2.2.2.1⟩ (hM H.size) (cwV n C.2.2.2.2.1 (gw_V hmv hl) rfl hrm.1 hrm.2 ⟨rfl, hmv.2.2.2.2⟩ hR) ⟨hp.1, hrecv, hp.2⟩ rfl hn hl2.1 rfl (lv_room hro) hdg ⟨Nat.zero_le _, Nat.zero_le _⟩) hS (fun q _ h => A_of C hD hS q h) (A_of C hD hS) (fun r9 u t H1 locs1 ht hvm hw hB hz1 hk1 hS1 => ?_)
  obtain ⟨hP1, hK1, hD1⟩ := hB
  rw [ht] at hP1
  have hD2 := hD1.weaken (fun k q _ h => A_of C hD hS q.1 h)
  rw [hw2] at hP1 hD2
  subst hw
  exact kk H1 locs1 ls hP1 hD2 hS1 hl2
theorem rc_Si (C : Cx p s m args c cc nL own ad D tys A) {y : MethodName} {bytes : ByteArray} {maxL index n : Nat} {rt : FieldType} {r : Int32} {rm : Room} {pre' cb cb' post' : va_W} {As : List Value} {st : List Value} (hM : CTi l y bytes maxL rt rm ad D tys (pre' ++ (cb ++ post')) As r (pre' ++ (cb' ++ post'))) (hms : MS y bytes maxL (some rt) n) (hl : Cond.methodLink own index y ∈ ALLW) (hn : As.length = n) (hR : rm.frames + 1 ≤ R.frames ∧ 8 + (maxL + 11) + rm.locals ≤ R.locals) (hrm : rm.cells = 0 ∧ rm.slots = 0) (hw : pre ++ (blk ++ post) = pre' ++ (cb ++ post')) (hw2 : pre' ++ (cb' ++ post') = pre ++ (blk' ++ post)) (hst : st = As.reverse ++ rest) (hro : (rest.map fun v => v.category).sum ≤ 8) (hdg : decode cc pc = .ok (.invokestatic index, 3)) (kk : VX p l e R s m args below meth c Q D A nL pre blk' post (pc + 3) lv (.int r :: rest)) : VX p l e R s m args below meth c Q D A nL pre blk post pc lv st := fun H locs ls hP hD hS hl2 => by
  subst hst
  rw [hw] at hP hD
  have hp := pre_of (av := As) C hP hD hS
  refine va_calli (va_runS ⟨C.1, C.2.1, C.2.2.1, C.2.2.2.1, C.2.2.2.2.1⟩ (hM H.size) (va_cwS n C.2.2.2.2.1 (gw_S hms hl) rfl hrm.1 hrm.2 ⟨hms.2.2.2.1, hms.2.2.2.2.1, hms.2.2.2.2.2⟩ hR) hp rfl hn hl2.1 rfl (lv_room hro) hdg ⟨Nat.zero_le _, Nat.zero_le _⟩) hS (fun q _ h => A_of C hD hS q h) (A_of C hD hS) (fun r9 u t H1 locs1 ht hvm hw hB hz1 hk1 hS1 => ?_)
  obtain ⟨hP1, hK1, hD1⟩ := hB
  rw [ht] at hP1
  have hD2 := hD1.weaken (fun k q _ h => A_of C hD hS q.1 h)
  rw [hw2] at hP1 hD2
  subst hw
  exact kk H1 locs1 ls hP1 hD2 hS1 hl2
theorem rc_Vl (C : Cx p s m args c cc nL own ad D tys A) {y : MethodName} {bytes : ByteArray} {maxL index n : Nat} {r : Int64} {rm : Room} {pre' cb cb' post' : va_W} {b ci q0 : Nat} {As : List Value} {fs : List Value} {st : List Value} {cl : vw_C} (hM : CTl l y bytes maxL rm ad D tys (pre' ++ (cb ++ post')) (.ref b :: As) r (pre' ++ (cb' ++ post'))) (hmv : MV y bytes maxL (some .long) n) (hl : Cond.methodLink own index y ∈ ALLW) (hn : As.length = n) (hR : rm.frames + 1 ≤ R.frames ∧ 8 + (maxL + 11) + rm.locals ≤ R.locals) (hrm : rm.cells = 0 ∧ rm.slots = 0) (hb : cb[q0]? = some (b, .inr (ci, fs))) (hci : vwCl[ci]? = some cl) (hcl : cl.1 = y.cls) (hw : pre ++ (blk ++ post) = pre' ++ (cb ++ post')) (hw2 : pre' ++ (cb' ++ post') = pre ++ (blk' ++ post)) (hst : st = As.reverse ++ .ref b :: rest) (hro : (rest.map fun v => v.category).sum ≤ 8) (hdg : decode cc pc = .ok (.invokevirtual index, 3)) (kk : VX p l e R s m args below meth c Q D A nL pre blk' post (pc + 3) lv (.long r :: rest)) : VX p l e R s m args below meth c Q D A nL pre blk post pc lv st := fun H locs ls hP hD hS hl2 => by
  subst hst
  rw [hw] at hP hD
  have hrecv : ∃ cell : Cell, H[b]? = some cell ∧ cell.vm.isStatics = false ∧ s.vm.findClass y.cls = some cell.cls := by
    rw [← hcl]
    exact va_recv C.2.2.2.2.2.1 hP hci (bk_at hb)
  have hp := pre_of (av := .ref b :: As) C hP hD hS
  refine va_calll (va_runV ⟨C.1, C.2.1, C.2.2.1, C.2.2.2.1, C.2.2.2.2.1⟩ (hM H.size) (cwV n C.2.2.2.2.1 (gw_V hmv hl) rfl hrm.1 hrm.2 ⟨rfl, hmv.2.2.2.2⟩ hR) ⟨hp.1, hrecv, hp.2⟩ rfl hn hl2.1 rfl (lv_room hro) hdg ⟨Nat.zero_le _, Nat.zero_le _⟩) hS (fun q _ h => A_of C hD hS q h) (A_of C hD hS) (fun r9 u t H1 locs1 ht hvm hw hB hz1 hk1 hS1 => ?_)
  obtain ⟨hP1, hK1, hD1⟩ := hB
  rw [ht] at hP1
  have hD2 := hD1.weaken (fun k q _ h => A_of C hD hS q.1 h)
  rw [hw2] at hP1 hD2
  subst hw
  exact kk H1 locs1 ls hP1 hD2 hS1 hl2
theorem rc_Sl (C : Cx p s m args c cc nL own ad D tys A) {y : MethodName} {bytes : ByteArray} {maxL index n : Nat} {r : Int64} {rm : Room} {pre' cb cb' post' : va_W} {As : List Value} {st : List Value} (hM : CTl l y bytes maxL rm ad D tys (pre' ++ (cb ++ post')) As r (pre' ++ (cb' ++ post'))) (hms : MS y bytes maxL (some .long) n) (hl : Cond.methodLink own index y ∈ ALLW) (hn : As.length = n) (hR : rm.frames + 1 ≤ R.frames ∧ 8 + (maxL + 11) + rm.locals ≤ R.locals) (hrm : rm.cells = 0 ∧ rm.slots = 0) (hw : pre ++ (blk ++ post) = pre' ++ (cb ++ post')) (hw2 : pre' ++ (cb' ++ post') = pre ++ (blk' ++ post)) (hst : st = As.reverse ++ rest) (hro : (rest.map fun v => v.category).sum ≤ 8) (hdg : decode cc pc = .ok (.invokestatic index, 3)) (kk : VX p l e R s m args below meth c Q D A nL pre blk' post (pc + 3) lv (.long r :: rest)) : VX p l e R s m args below meth c Q D A nL pre blk post pc lv st := fun H locs ls hP hD hS hl2 => by
  subst hst
  rw [hw] at hP hD
  have hp := pre_of (av := As) C hP hD hS
  refine va_calll (va_runS ⟨C.1, C.2.1, C.2.2.1, C.2.2.2.1, C.2.2.2.2.1⟩ (hM H.size) (va_cwS n C.2.2.2.2.1 (gw_S hms hl) rfl hrm.1 hrm.2 ⟨hms.2.2.2.1, hms.2.2.2.2.1, hms.2.2.2.2.2⟩ hR) hp rfl hn hl2.1 rfl (lv_room hro) hdg ⟨Nat.zero_le _, Nat.zero_le _⟩) hS (fun q _ h => A_of C hD hS q h) (A_of C hD hS) (fun r9 u t H1 locs1 ht hvm hw hB hz1 hk1 hS1 => ?_)
  obtain ⟨hP1, hK1, hD1⟩ := hB
  rw [ht] at hP1
  have hD2 := hD1.weaken (fun k q _ h => A_of C hD hS q.1 h)
  rw [hw2] at hP1 hD2
  subst hw
  exact kk H1 locs1 ls hP1 hD2 hS1 hl2
theorem rc_Vv (C : Cx p s m args c cc nL own ad D tys A) {y : MethodName} {bytes : ByteArray} {maxL index n : Nat} {rm : Room} {pre' cb cb' post' : va_W} {b ci q0 : Nat} {As : List Value} {fs : List Value} {st : List Value} {cl : vw_C} (hM : CTv l y bytes maxL rm ad D tys (pre' ++ (cb ++ post')) (.ref b :: As) (pre' ++ (cb' ++ post'))) (hmv : MV y bytes maxL none n) (hl : Cond.methodLink own index y ∈ ALLW) (hn : As.length = n) (hR : rm.frames + 1 ≤ R.frames ∧ 8 + (maxL + 11) + rm.locals ≤ R.locals) (hrm : rm.cells = 0 ∧ rm.slots = 0) (hb : cb[q0]? = some (b, .inr (ci, fs))) (hci : vwCl[ci]? = some cl) (hcl : cl.1 = y.cls) (hw : pre ++ (blk ++ post) = pre' ++ (cb ++ post')) (hw2 : pre' ++ (cb' ++ post') = pre ++ (blk' ++ post)) (hst : st = As.reverse ++ .ref b :: rest) (hro : (rest.map fun v => v.category).sum ≤ 8) (hdg : decode cc pc = .ok (.invokevirtual index, 3)) (kk : VX p l e R s m args below meth c Q D A nL pre blk' post (pc + 3) lv (rest)) : VX p l e R s m args below meth c Q D A nL pre blk post pc lv st := fun H locs ls hP hD hS hl2 => by
  subst hst
  rw [hw] at hP hD
  have hrecv : ∃ cell : Cell, H[b]? = some cell ∧ cell.vm.isStatics = false ∧ s.vm.findClass y.cls = some cell.cls := by
    rw [← hcl]
    exact va_recv C.2.2.2.2.2.1 hP hci (bk_at hb)
  have hp := pre_of (av := .ref b :: As) C hP hD hS
  refine va_callv (va_runV ⟨C.1, C.2.1, C.2.2.1, C.2.2.2.1, C.2.2.2.2.1⟩ (hM H.size) (cwV n C.2.2.2.2.1 (gw_V hmv hl) rfl hrm.1 hrm.2 ⟨rfl, hmv.2.2.2.2⟩ hR) ⟨hp.1, hrecv, hp.2⟩ rfl hn hl2.1 rfl (lv_room hro) hdg ⟨Nat.zero_le _, Nat.zero_le _⟩) hS (fun q _ h => A_of C hD hS q h) (A_of C hD hS) (fun u t H1 locs1 ht hvm hw hB hz1 hk1 hS1 => ?_)
  obtain ⟨hP1, hK1, hD1⟩ := hB
  rw [ht] at hP1
  have hD2 := hD1.weaken (fun k q _ h => A_of C hD hS q.1 h)
  rw [hw2] at hP1 hD2
  exact kk H1 locs1 ls hP1 hD2 hS1 hl2
theorem rc_Sv (C : Cx p s m args c cc nL own ad D tys A) {y : MethodName} {bytes : ByteArray} {maxL index n : Nat} {rm : Room} {pre' cb cb' post' : va_W} {As : List Value} {st : List Value} (hM : CTv l y bytes maxL rm ad D tys (pre' ++ (cb ++ post')) As (pre' ++ (cb' ++ post'))) (hms : MS y bytes maxL none n) (hl : Cond.methodLink own index y ∈ ALLW) (hn : As.length = n) (hR : rm.frames + 1 ≤ R.frames ∧ 8 + (maxL + 11) + rm.locals ≤ R.locals) (hrm : rm.cells = 0 ∧ rm.slots = 0) (hw : pre ++ (blk ++ post) = pre' ++ (cb ++ post')) (hw2 : pre' ++ (cb' ++ post') = pre ++ (blk' ++ post)) (hst : st = As.reverse ++ rest) (hro : (rest.map fun v => v.category).sum ≤ 8) (hdg : decode cc pc = .ok (.invokestatic index, 3)) (kk : VX p l e R s m args below meth c Q D A nL pre blk' post (pc + 3) lv (rest)) : VX p l e R s m args below meth c Q D A nL pre blk post pc lv st := fun H locs ls hP hD hS hl2 => by
  subst hst
  rw [hw] at hP hD
  have hp := pre_of (av := As) C hP hD hS
  refine va_callv (va_runS ⟨C.1, C.2.1, C.2.2.1, C.2.2.2.1, C.2.2.2.2.1⟩ (hM H.size) (va_cwS n C.2.2.2.2.1 (gw_S hms hl) rfl hrm.1 hrm.2 ⟨hms.2.2.2.1, hms.2.2.2.2.1, hms.2.2.2.2.2⟩ hR) hp rfl hn hl2.1 rfl (lv_room hro) hdg ⟨Nat.zero_le _, Nat.zero_le _⟩) hS (fun q _ h => A_of C hD hS q h) (A_of C hD hS) (fun u t H1 locs1 ht hvm hw hB hz1 hk1 hS1 => ?_)
  obtain ⟨hP1, hK1, hD1⟩ := hB
  rw [ht] at hP1
  have hD2 := hD1.weaken (fun k q _ h => A_of C hD hS q.1 h)
  rw [hw2] at hP1 hD2
  exact kk H1 locs1 ls hP1 hD2 hS1 hl2
theorem rc_Ni (C : Cx p s m args c cc nL own ad D tys A) {y : MethodName} {host : String} {bytes : ByteArray} {maxL index n : Nat} {rt : FieldType} {r : Int32} {rm : Room} {pre' cb cb' post' : va_W} {As : List Value} {st : List Value} (hM : CTi l y bytes maxL rt rm ad D tys (pre' ++ (cb ++ post')) As r (pre' ++ (cb' ++ post'))) (hms : MS y bytes maxL (some rt) n) (hl : va_Nw (.methodLinkNest own index y host) s) (hn : As.length = n) (hR : rm.frames + 1 ≤ R.frames ∧ 8 + (maxL + 11) + rm.locals ≤ R.locals) (hrm : rm.cells = 0 ∧ rm.slots = 0) (hw : pre ++ (blk ++ post) = pre' ++ (cb ++ post')) (hw2 : pre' ++ (cb' ++ post') = pre ++ (blk' ++ post)) (hst : st = As.reverse ++ rest) (hro : (rest.map fun v => v.category).sum ≤ 8) (hdg : decode cc pc = .ok (.invokestatic index, 3)) (kk : VX p l e R s m args below meth c Q D A nL pre blk' post (pc + 3) lv (.int r :: rest)) : VX p l e R s m args below meth c Q D A nL pre blk post pc lv st := fun H locs ls hP hD hS hl2 => by
  subst hst
  rw [hw] at hP hD
  have hp := pre_of (av := As) C hP hD hS
  refine va_calli (va_runSN ⟨C.1, C.2.1, C.2.2.1, C.2.2.2.1, C.2.2.2.2.1⟩ (hM H.size) ⟨va_cnB n C.2.2.2.2.1 (fun w hw => gw_all (by rcases List.mem_cons.mp hw with rfl | hw2; exact hms.2.2.1; exact hw2)) rfl hrm.1 hrm.2 hl (C.2.2.2.2.1 _ hms.2.1) ⟨hms.2.2.2.1, hms.2.2.2.2.1, hms.2.2.2.2.2⟩ hR, C.2.2.2.2.1 _ hms.1, trivial⟩ hp rfl hn hl2.1 rfl (lv_room hro) hdg ⟨Nat.zero_le _, Nat.zero_le _⟩) hS (fun q _ h => A_of C hD hS q h) (A_of C hD hS) (fun r9 u t H1 locs1 ht hvm hw hB hz1 hk1 hS1 => ?_)
  obtain ⟨hP1, hK1, hD1⟩ := hB
  rw [ht] at hP1
  have hD2 := hD1.weaken (fun k q _ h => A_of C hD hS q.1 h)
  rw [hw2] at hP1 hD2
  subst hw
  exact kk H1 locs1 ls hP1 hD2 hS1 hl2
theorem r_loop {pcL : Nat} {blkf : Nat → va_W} {lvf : Nat → List (Nat × Value)} (X : Nat → Prop) (b i0 : Nat) (hi : i0 ≤ b) (hX : X i0) (step : ∀ i, i ≤ b → X i → (i < b → X (i + 1) → VX p l e R s m args below meth c Q D A nL pre (blkf (i + 1)) post pcL (lvf (i + 1)) []) → VX p l e R s m args below meth c Q D A nL pre (blkf i) post pcL (lvf i) []) : VX p l e R s m args below meth c Q D A nL pre (blkf i0) post pcL (lvf i0) [] := by
  have key : ∀ d i, i + d = b → X i → VX p l e R s m args below meth c Q D A nL pre (blkf i) post pcL (lvf i) [] := by
    intro d
    induction d with
    | zero => intro i hi hx; exact step i (by omega) hx (fun h2 => by omega)
    | succ d ih => intro i hi hx; exact step i (by omega) hx (fun h2 hx2 => ih (i + 1) (by omega) hx2)
  exact key (b - i0) i0 (by omega) hX
end VXR
theorem dec_ind {P : Nat → Prop} (n : Nat) (h : ∀ i, i ≤ n → (i < n → P (i + 1)) → P i) : ∀ i, i ≤ n → P i := by
  have key : ∀ d i, i + d = n → P i := by
    intro d
    induction d with
    | zero => intro i hi; exact h i (by omega) (fun h2 => by omega)
    | succ d ih => intro i hi; exact h i (by omega) (fun h2 => ih (i + 1) (by omega))
  intro i hi
  exact key (n - i) i (by omega)
def bI (P : Prop) [Decidable P] : Int32 := if P then 1 else 0
theorem bI_t {P : Prop} [Decidable P] (h : P) : 1 = bI P := by simp [bI, h]
theorem bI_f {P : Prop} [Decidable P] (h : ¬ P) : 0 = bI P := by simp [bI, h]
theorem bI_0 {P : Prop} [Decidable P] : bI P = 0 ↔ ¬ P := by by_cases h : P <;> simp [bI, h]
theorem bI_n {P : Prop} [Decidable P] : ¬ bI P = 0 ↔ P := by by_cases h : P <;> simp [bI, h]
theorem bI_fit {P : Prop} [Decidable P] : fits .boolean (.int (bI P)) = true := by by_cases h : P <;> simp [bI, h] <;> rfl
theorem bI_nar {P : Prop} [Decidable P] : narrow .boolean (.int (bI P)) = .int (bI P) := by by_cases h : P <;> simp [bI, h] <;> rfl
theorem nIc_eq_t {a b : Nat} (ha : a < 2 ^ 31) (hb : b < 2 ^ 31) (h : nI a = nI b) : a = b := (nI_eq ha hb).mp h
theorem nIc_eq_f {a b : Nat} (ha : a < 2 ^ 31) (hb : b < 2 ^ 31) (h : ¬ nI a = nI b) : a ≠ b := fun q => h ((nI_eq ha hb).mpr q)
theorem nIc_ne_t {a b : Nat} (ha : a < 2 ^ 31) (hb : b < 2 ^ 31) (h : ¬ nI a = nI b) : a ≠ b := fun q => h ((nI_eq ha hb).mpr q)
theorem nIc_ne_f {a b : Nat} (ha : a < 2 ^ 31) (hb : b < 2 ^ 31) (h : nI a = nI b) : a = b := (nI_eq ha hb).mp h
theorem nIc_lt_t {a b : Nat} (ha : a < 2 ^ 31) (hb : b < 2 ^ 31) (h : nI a < nI b) : a < b := (nI_ltI ha hb).mp h
theorem nIc_lt_f {a b : Nat} (ha : a < 2 ^ 31) (hb : b < 2 ^ 31) (h : ¬ nI a < nI b) : b ≤ a := Nat.not_lt.mp fun q => h ((nI_ltI ha hb).mpr q)
theorem nIc_ge_t {a b : Nat} (ha : a < 2 ^ 31) (hb : b < 2 ^ 31) (h : nI b ≤ nI a) : b ≤ a := (nI_leI hb ha).mp h
theorem nIc_ge_f {a b : Nat} (ha : a < 2 ^ 31) (hb : b < 2 ^ 31) (h : ¬ nI b ≤ nI a) : a < b := Nat.not_le.mp fun q => h ((nI_leI hb ha).mpr q)
theorem nIc_gt_t {a b : Nat} (ha : a < 2 ^ 31) (hb : b < 2 ^ 31) (h : nI b < nI a) : b < a := (nI_ltI hb ha).mp h
theorem nIc_gt_f {a b : Nat} (ha : a < 2 ^ 31) (hb : b < 2 ^ 31) (h : ¬ nI b < nI a) : a ≤ b := Nat.not_lt.mp fun q => h ((nI_ltI hb ha).mpr q)
theorem nIc_le_t {a b : Nat} (ha : a < 2 ^ 31) (hb : b < 2 ^ 31) (h : nI a ≤ nI b) : a ≤ b := (nI_leI ha hb).mp h
theorem nIc_le_f {a b : Nat} (ha : a < 2 ^ 31) (hb : b < 2 ^ 31) (h : ¬ nI a ≤ nI b) : b < a := Nat.not_le.mp fun q => h ((nI_leI ha hb).mpr q)
theorem i64_lt {x y : Int32} : x.toInt64 < y.toInt64 ↔ x < y := by rw [Int64.lt_iff_toInt_lt, Int32.lt_iff_toInt_lt, Int32.toInt_toInt64, Int32.toInt_toInt64]
theorem i64_le {x y : Int32} : x.toInt64 ≤ y.toInt64 ↔ x ≤ y := by rw [Int64.le_iff_toInt_le, Int32.le_iff_toInt_le, Int32.toInt_toInt64, Int32.toInt_toInt64]
theorem i64_eq {x y : Int32} : x.toInt64 = y.toInt64 ↔ x = y := by rw [← Int64.toInt_inj, ← Int32.toInt_inj, Int32.toInt_toInt64, Int32.toInt_toInt64]
theorem sw_cases (x : Int32) (lo hi : Int) (h : lo ≤ hi) : (x.toInt < lo ∨ hi < x.toInt) ∨ ∃ i : Nat, i < (hi - lo + 1).toNat ∧ x.toInt = lo + i := by
  by_cases h1 : x.toInt < lo
  · exact Or.inl (Or.inl h1)
  · by_cases h2 : hi < x.toInt
    · exact Or.inl (Or.inr h2)
    · exact Or.inr ⟨(x.toInt - lo).toNat, by omega, by omega⟩
