/-! ===== BEGIN new T[n][m]: the outer array a place, the inner ones among the pooled ===== -/
/-- f, but v at every address of l -/
def vr_up {α : Type} (f : Nat → α) (l : List Nat) (v : α) : Nat → α := fun a => if a ∈ l then v else f a
theorem vr_up_in {α : Type} {f : Nat → α} {l : List Nat} {v : α} {a : Nat} (h : a ∈ l) : vr_up f l v a = v := if_pos h
theorem vr_up_ne {α : Type} {f : Nat → α} {l : List Nat} {v : α} {a : Nat} (h : a ∉ l) : vr_up f l v a = f a := if_neg h
theorem vr_rows {L l : List Nat} {f : Nat → va_E} {e : va_E} (h : ∀ a, a ∈ l → a ∉ L) : va_pl L f ++ l.map (fun a => (a, e)) = va_pl (L ++ l) (vr_up f l e) := by
  unfold va_pl
  rw [List.map_append]
  congr 1
  · apply List.map_congr_left
    intro a ha
    rw [vr_up_ne (fun q => h a q ha)]
  · apply List.map_congr_left
    intro a ha
    rw [vr_up_in ha]
theorem vr_lay {X rows : va_W} {x : Nat × va_E} {pl : va_W} {D : va_G} {cl : List vw_C} {H : Heap} (hP : va_P D cl (((X ++ pl) ++ [x]) ++ rows) H) : va_P D cl ((X ++ [x]) ++ (pl ++ rows)) H := by
  rw [List.append_assoc (X ++ pl)] at hP
  have h := va_P.swap hP
  rw [← List.append_assoc X] at h
  have h2 := va_P.swap h
  rw [List.append_assoc (X ++ [x])] at h2
  exact h2
theorem vr_layD {X rows : va_W} {x : Nat × va_E} {pl : va_W} {A : Nat → Prop} (hD : va_D A (((X ++ pl) ++ [x]) ++ rows)) : va_D A ((X ++ [x]) ++ (pl ++ rows)) := by
  rw [List.append_assoc (X ++ pl)] at hD
  have h := va_D.swap hD
  rw [← List.append_assoc X] at h
  have h2 := va_D.swap h
  rw [List.append_assoc (X ++ [x])] at h2
  exact h2
theorem vr_outer (c : ClassId) (N h0 : Nat) : ∀ i : Nat, Jvm.Free.Multi.outerC c N h0 i = arrV c N (fun j => va_rf (if j < i then some (h0 + 1 + j) else none))
  | 0 => by
    show ({ cls := c, slots := Array.replicate N .null, vm := .none } : Cell) = _
    rw [arrV_new]
    refine congrArg (arrV c N) (funext fun j => ?_)
    simp [va_rf]
  | i + 1 => by
    show (Jvm.Free.Multi.outerC c N h0 i).setSlot i (.ref (h0 + 1 + i)) = _
    rw [vr_outer c N h0 i, arrV_store]
    refine congrArg (arrV c N) (funext fun j => ?_)
    by_cases e : j = i
    · subst e
      simp [updV, va_rf]
    · by_cases h : j < i
      · simp [updV, e, h, Nat.lt_succ_of_lt h]
      · simp [updV, e, h, show ¬ j < i + 1 by omega]
section VGM
variable {p : Program} {l : Launch} {e : Env} {R : Room} {s : State} {m : MethodId} {args : Array Value} {below : List Frame} {meth : Method} {c : Code} {H : Heap} {locs : List Loc} {cells slots : Nat} {Q : State → Prop}
variable {cc : ByteArray} {pc : Nat} {ls : Array Slot} {rest : List Value} {D : va_G} {cl : List vw_C} {A : Nat → Prop} {a : Nat} {tys : List (ClassId × FieldType)} {ws : va_W} {H0 : Heap}
theorem va_mna {X : va_W} {L : List Nat} {f : Nat → va_E} {cc : ByteArray} (hexec : p.tables.exec = Jvm.exec) (hb : c.code = cc) {own : String} {index : Nat} {ty : FieldType} {cy : ClassId} (hown : s.vm.findClass own = some m.cls) (hclink : (Cond.classLink own index ("[" ++ (FieldType.array ty).toString)).before args s = true) (hover : (Cond.arrayOver (.array ty)).before args s = true) (harr : (Cond.arrayClass ty).before args s = true) (hcy : s.vm.findClass (FieldType.array ty).toString = some cy)
    (hK : va_K D cl tys s) (hP : va_P D cl (X ++ va_pl L f) H) (hD : va_D A (X ++ va_pl L f)) (hS : va_S A H0 H locs) (hA : ∀ q, H0.size ≤ q → A q) {n k : Int32} {N' K' : Nat} {z : vp_A} (hn : ¬ n < 0) (hk : ¬ k < 0) (hN : n.toNatClampNeg = N') (hM : k.toNatClampNeg = K')
    (hb1 : N' * 4 ≤ 536870912) (hb2 : K' * componentBytes ty ≤ 536870912) (hb3 : K' ≤ 536870912) (hdf : fits ty (defaultValue ty) = true) (hdd : (defaultValue ty).isDefault = true) (hcells : cells + (1 + N') ≤ R.cells) (hslots : slots + (N' + N' * K') ≤ R.slots) (hz : ∀ c : ClassId, Jvm.Free.Multi.innerC c K' (defaultValue ty) = vp_cell c z) (hdg : decode cc pc = .ok (.multianewarray index 2, 4))
    (kk : ∀ (q : Nat) (r : Nat → Nat) (cA : ClassId) (H1 : Heap), (∀ i j : Nat, i < N' → j < N' → r i = r j → i = j) → (∀ i : Nat, i < N' → r i ∉ L) → va_K D cl (tys ++ [(cA, .array ty)]) s →
      va_P D cl ((X ++ [(q, .inl (cA, N', .inr (.inr (.inr (.inr (fun i => if i < N' then some (r i) else none))))))]) ++ va_pl (L ++ (List.range N').map r) (vr_up f ((List.range N').map r) (.inl (cy, z)))) H1 → va_D A ((X ++ [(q, .inl (cA, N', .inr (.inr (.inr (.inr (fun i => if i < N' then some (r i) else none))))))]) ++ va_pl (L ++ (List.range N').map r) (vr_up f ((List.range N').map r) (.inl (cy, z)))) → va_S A H0 H1 locs →
      W p l e R s m args below meth c H1 locs (cells + 1 + N') (slots + N' + N' * K') Q (F0 m (pc + 4) ls (.ref q :: rest))) : W p l e R s m args below meth c H locs cells slots Q (F0 m pc ls (.int k :: .int n :: rest)) := by
  subst hN
  subst hM
  intro T hT Xs
  obtain ⟨vm₁, cA, comp, -, fA, fC, hO, -, X', step⟩ := Xs.multianewarray2F hexec hown hclink hover harr (g := F0 m pc ls (.int k :: .int n :: rest)) rfl (by rw [hb]; exact hdg) rfl hn hk hb1 hb2 hb3 hdf hdd hcells hslots
  have ec : some cy = some comp := hcy.symm.trans fC
  cases ec
  generalize hF : Jvm.Free.Multi.fill (T.setVm vm₁) cA cy n.toNatClampNeg k.toNatClampNeg (defaultValue ty) n.toNatClampNeg = F at X' step
  have hTh : (T.setVm vm₁).heap = H := hT
  obtain ⟨f1, f2, -, -⟩ := Jvm.Free.Multi.fill_facts (T.setVm vm₁) cA cy n.toNatClampNeg k.toNatClampNeg (defaultValue ty) n.toNatClampNeg
  rw [hF, hTh] at f1 f2
  have hold : ∀ x : Nat, x < H.size → F.heap[x]? = H[x]? := fun x hx => by
    have := Jvm.Free.Multi.fill_old (T.setVm vm₁) cA cy n.toNatClampNeg k.toNatClampNeg (defaultValue ty) (a := x) (by rw [hTh]; exact hx) n.toNatClampNeg
    rw [hF, hTh] at this
    exact this
  have hrow : ∀ j : Nat, j < n.toNatClampNeg → F.heap[H.size + 1 + j]? = some (vp_cell cy z) := fun j hj => by
    have := Jvm.Free.Multi.fill_inner (T.setVm vm₁) cA cy n.toNatClampNeg k.toNatClampNeg (defaultValue ty) n.toNatClampNeg j hj
    rw [hF, hTh, hz] at this
    exact this
  have hout : Jvm.Free.Multi.outerC cA n.toNatClampNeg H.size n.toNatClampNeg = vp_cell cA (n.toNatClampNeg, .inr (.inr (.inr (.inr (fun i => if i < n.toNatClampNeg then some (H.size + 1 + i) else none))))) := by
    rw [vp_cell_q]
    exact vr_outer cA n.toNatClampNeg H.size n.toNatClampNeg
  rw [hout] at f2
  have hlt : ∀ a, a ∈ L → a < H.size := fun a ha => by
    obtain ⟨k9, hk9⟩ := va_pl_get (X := X) (f := f) ha
    exact (hP k9 _ hk9).lt
  have hnl : ∀ i : Nat, i < n.toNatClampNeg → H.size + 1 + i ∉ L := fun i _ h => by
    have := hlt _ h
    omega
  have hnm : ∀ a, a ∈ (List.range n.toNatClampNeg).map (fun i => H.size + 1 + i) → a ∉ L := fun a ha h => by
    obtain ⟨i, -, rfl⟩ := List.mem_map.mp ha
    have := hlt _ h
    omega
  have hP0 : va_P D cl (X ++ va_pl L f) F.heap := hP.kept (fun k9 x hx => hold x.1 ((hP k9 x hx).lt))
  have hP1 : va_P D cl ((X ++ va_pl L f) ++ [(H.size, .inl (cA, n.toNatClampNeg, .inr (.inr (.inr (.inr (fun i => if i < n.toNatClampNeg then some (H.size + 1 + i) else none))))))]) F.heap := hP0.app (fun k9 x hx => by
    have h0 : k9 < 1 := (List.getElem?_eq_some_iff.mp hx).1
    rw [show k9 = 0 by omega] at hx
    cases hx
    exact f2)
  have hP2 : va_P D cl (((X ++ va_pl L f) ++ [(H.size, .inl (cA, n.toNatClampNeg, .inr (.inr (.inr (.inr (fun i => if i < n.toNatClampNeg then some (H.size + 1 + i) else none))))))]) ++ ((List.range n.toNatClampNeg).map (fun i => H.size + 1 + i)).map (fun a => (a, .inl (cy, z)))) F.heap := hP1.app (fun k9 x hx => by
    obtain ⟨a, ha, rfl⟩ := List.mem_map.mp (List.mem_of_getElem? hx)
    obtain ⟨i, hi, rfl⟩ := List.mem_map.mp ha
    exact hrow i (List.mem_range.mp hi))
  have hD2 : va_D A (((X ++ va_pl L f) ++ [(H.size, .inl (cA, n.toNatClampNeg, .inr (.inr (.inr (.inr (fun i => if i < n.toNatClampNeg then some (H.size + 1 + i) else none))))))]) ++ ((List.range n.toNatClampNeg).map (fun i => H.size + 1 + i)).map (fun a => (a, .inl (cy, z)))) := by
    have hD1 := hD.push (e := .inl (cA, n.toNatClampNeg, .inr (.inr (.inr (.inr (fun i => if i < n.toNatClampNeg then some (H.size + 1 + i) else none)))))) hP rfl (hA _ hS.1)
    generalize hW1 : (X ++ va_pl L f) ++ [(H.size, .inl (cA, n.toNatClampNeg, .inr (.inr (.inr (.inr (fun i => if i < n.toNatClampNeg then some (H.size + 1 + i) else none))))))] = W1 at hD1 hP1 ⊢
    have hle : ∀ (k9 : Nat) (x : Nat × va_E), W1[k9]? = some x → x.1 ≤ H.size := fun k9 x hx => by
      rw [← hW1] at hx
      by_cases hl : k9 < (X ++ va_pl L f).length
      · rw [List.getElem?_append_left hl] at hx
        exact Nat.le_of_lt ((hP k9 x hx).lt)
      · rw [List.getElem?_append_right (by omega)] at hx
        have h0 : k9 - (X ++ va_pl L f).length < 1 := (List.getElem?_eq_some_iff.mp hx).1
        rw [show k9 - (X ++ va_pl L f).length = 0 by omega] at hx
        cases hx
        exact Nat.le_refl _
    have hr : ∀ (k9 : Nat) (x : Nat × va_E), (((List.range n.toNatClampNeg).map (fun i => H.size + 1 + i)).map (fun a => ((a, .inl (cy, z)) : Nat × va_E)))[k9]? = some x → x.1 = H.size + 1 + k9 := fun k9 x hx => by
      rw [List.getElem?_map, List.getElem?_map] at hx
      by_cases h9 : k9 < n.toNatClampNeg
      · rw [List.getElem?_range h9] at hx
        cases hx
        rfl
      · have hn0 : (List.range n.toNatClampNeg)[k9]? = none := List.getElem?_eq_none (by rw [List.length_range]; omega)
        rw [hn0] at hx
        cases hx
    refine ⟨fun i j x y hi hj hxy => ?_, fun k9 x hx => ?_⟩
    · by_cases h1 : i < W1.length <;> by_cases h2 : j < W1.length
      · rw [List.getElem?_append_left h1] at hi
        rw [List.getElem?_append_left h2] at hj
        exact hD1.1 i j x y hi hj hxy
      · rw [List.getElem?_append_left h1] at hi
        rw [List.getElem?_append_right (by omega)] at hj
        have := hle _ _ hi
        have := hr _ _ hj
        omega
      · rw [List.getElem?_append_right (by omega)] at hi
        rw [List.getElem?_append_left h2] at hj
        have := hle _ _ hj
        have := hr _ _ hi
        omega
      · rw [List.getElem?_append_right (by omega)] at hi hj
        have := hr _ _ hi
        have := hr _ _ hj
        omega
    · by_cases h1 : k9 < W1.length
      · rw [List.getElem?_append_left h1] at hx
        exact hD1.2 k9 x hx
      · rw [List.getElem?_append_right (by omega)] at hx
        have := hr _ _ hx
        exact hA _ (by have := hS.1; omega)
  have hAr : ArrOfT s cA (.array ty) := fun N9 z9 => by
    obtain ⟨-, k9, hk9, cm9, hkk9⟩ := (hO 0 0 0).1
    exact ⟨(fun q hq => by cases hq), k9, hk9, cm9, hkk9⟩
  have hK2 : va_K D cl (tys ++ [(cA, .array ty)]) s := ⟨hK.1, fun k9 x hx => by
    by_cases hl : k9 < tys.length
    · rw [List.getElem?_append_left hl] at hx
      exact hK.2 k9 x hx
    · rw [List.getElem?_append_right (by omega)] at hx
      have h0 : k9 - tys.length < 1 := (List.getElem?_eq_some_iff.mp hx).1
      rw [show k9 - tys.length = 0 by omega] at hx
      cases hx
      exact ⟨hAr, fA⟩⟩
  obtain ⟨t, a1, b1⟩ := kk H.size (fun i => H.size + 1 + i) cA F.heap (fun i j _ _ h => by have h9 : H.size + 1 + i = H.size + 1 + j := h; omega) hnl hK2 (by rw [← vr_rows hnm]; exact vr_lay hP2) (by rw [← vr_rows hnm]; exact vr_layD hD2) ⟨by rw [f1]; have := hS.1; omega, fun x h1 h2 => (hold x (Nat.lt_of_lt_of_le h1 hS.1)).trans (hS.2.1 x h1 h2), hS.2.2⟩ F rfl X'
  refine ⟨t, step t ?_, b1⟩
  have e : T.heap.size = H.size := by rw [hT]
  rw [e]
  exact a1
end VGM

/-! constructors: new cells -/
theorem co_oi : Cond.code objectInit ⟨#[0xb1]⟩ 1 none ∈ ALLW := at1 22 rfl rfl
theorem AOA.moved {t : FieldType} {u U : State} (hvm : u.vm.Alike U.vm) (h : (Cond.arrayOver (.array t)).before #[] u = true) : (Cond.arrayOver (.array t)).before #[] U = true := by
  obtain ⟨comp, c, k, h1, h2, h3, h4, h5⟩ := arrayOverA_spec h
  obtain ⟨k', hk', he⟩ := hvm.2.2 _ _ h3
  have hi : (U.vm.classes.findIdx? fun (x : Class) => match x.kind with | .array component _ => component == comp | _ => false) = some c := by
    have hb : U.vm.bare = u.vm.bare := by first | exact hvm.bare_eq | exact hvm.bare_eq.symm
    have e1 := va_idx_bare u.vm comp
    have e2 := va_idx_bare U.vm comp
    rw [hb] at e2
    exact (e2.symm.trans e1).trans h2
  have hkind : k'.kind = .array comp (.array t) := by rw [he]; exact h4
  have f1 : U.vm.findClass (FieldType.array t).toString = some comp := by rw [hvm.findClass]; exact h1
  have f2 : U.vm.findClass ("[" ++ (FieldType.array t).toString) = some c := by rw [hvm.findClass]; exact h5
  unfold Cond.before Cond.holds
  simp only [Cond.value]
  rw [f1, Option.bind_some]
  refine (congrArg (fun o : Option Nat => (o.bind (fun c => (U.vm.classes[c]?).map fun (k : Class) => match k.kind with | .array _ ty => decide (ty = FieldType.array t) && decide (U.vm.findClass ("[" ++ (FieldType.array t).toString) = some c) | _ => false) == some true)) hi).trans ?_
  simp [hk', hkind, f2]
def AOs (ad : Nat → Nat) (U : State) (H : Heap) : Prop := (Cond.arrayOver (.array .int)).before #[] U = true ∧ va_AO "WoolMarket$Sheet" U ∧ va_AO "WoolMarket$Shelf" U ∧ va_Nw (.castable "[I" "java/lang/Cloneable") U ∧ ∃ cell : Cell, H[ad 0]? = some cell ∧ cell.slots.size = 4 ∧ U.vm.findClass "[I" = some cell.cls
theorem AOs.warm {ad : Nat → Nat} {s U : State} {H : Heap} (hW : s.WarmedH U.vm) (h : AOs ad s H) : AOs ad U H := by
  obtain ⟨h1, h2, h3, h4, cell, h5, h6, h7⟩ := h
  exact ⟨AOA.moved hW.alike h1, va_AO.moved hW.alike h2, va_AO.moved hW.alike h3, va_Nw.warmC hW h4, cell, h5, h6, by rw [hW.alike.findClass]; exact h7⟩
theorem AOs.same {ad : Nat → Nat} {s U : State} {H : Heap} (hv : U.vm = s.vm) (h : AOs ad s H) : AOs ad U H := by
  obtain ⟨h1, h2, h3, h4, cell, h5, h6, h7⟩ := h
  have hA : s.vm.Alike U.vm := by rw [hv]; exact Vm.Alike.refl _
  exact ⟨AOA.moved hA h1, va_AO.moved hA h2, va_AO.moved hA h3, va_tabs rfl hv.symm h4, cell, h5, h6, by rw [hv]; exact h7⟩
theorem AOs.kept {ad : Nat → Nat} {s : State} {H H1 : Heap} (h : AOs ad s H) (hq : H1[ad 0]? = H[ad 0]?) : AOs ad s H1 := by
  obtain ⟨h1, h2, h3, h4, cell, h5, h6, h7⟩ := h
  exact ⟨h1, h2, h3, h4, cell, by rw [hq]; exact h5, h6, h7⟩
def cPn (ad : Nat → Nat) (D : va_G) (cs : Nat → ClassId) (w : va_W) (sz : Nat) (av : List Value) : Array Value → State → Prop := va_Pc av (fun U => U.heap.size = sz ∧ va_P D vwCl w U.heap ∧ va_K D vwCl (tysW cs) U ∧ va_D (fun _ => True) w ∧ SF ad (va_A w sz) U U.heap ∧ AOs ad U U.heap)
theorem cPn_blind {ad : Nat → Nat} {D : va_G} {cs : Nat → ClassId} {w : va_W} {sz : Nat} {av : List Value} : FrameBlind (cPn ad D cs w sz av) := fun a U g mk q => by
  obtain ⟨q0, q1, qP, qK, qD, qF, qO⟩ := q
  exact ⟨q0, q1, qP, va_K.moved (u := U) (U := U.calling g mk a) (Vm.Alike.refl U.vm) qK, qD, SF.same (s := U) (U := U.calling g mk a) rfl qF, AOs.same (s := U) (U := U.calling g mk a) rfl qO⟩
def cBn (D : va_G) (cs : Nat → ClassId) (A : Nat → Prop) (h0 : Nat) (Wf : (Nat → Nat) → va_W) : Unit → State → Prop := fun _ t => ∃ g : Nat → Nat, g 0 = h0 ∧ va_P D vwCl (Wf g) t.heap ∧ va_K D vwCl (tysW cs) t ∧ va_D A (Wf g)
def CN (l : Launch) (y : MethodName) (cc : ByteArray) (maxL : Nat) (rm : Room) (ad : Nat → Nat) (D : va_G) (cs : Nat → ClassId) (ci : Nat) (fs : List Value) (mc ms : Nat) (Wf : (Nat → Nat) → va_W) : Prop := ∀ h0 sz : Nat, Met l y (.code y cc maxL none :: ALLW) rm (cPn ad D cs [(h0, .inr (ci, fs))] sz [.ref h0]) (va_Qv (fun _ => True) (cBn D cs (va_A [(h0, .inr (ci, fs))] sz) h0 Wf) (va_A [(h0, .inr (ci, fs))] sz)) mc ms (va_A [(h0, .inr (ci, fs))] sz)
def VN (p : Program) (l : Launch) (e : Env) (R : Room) (s : State) (m : MethodId) (args : Array Value) (below : List Frame) (meth : Method) (c : Code) (Q : State → Prop) (D : va_G) (A : Nat → Prop) (nL : Nat) (cells slots : Nat) (w : va_W) (pc : Nat) (lv : List (Nat × Value)) (st : List Value) : Prop :=
  ∀ (H : Heap) (locs : List Loc) (ls : Array Slot), va_P D vwCl w H → va_D A w → va_S A s.heap H locs → lv_has ls nL lv → W p l e R s m args below meth c H locs cells slots Q (F0 m pc ls st)
def QN (below : List Frame) (args : Array Value) (s : State) (D : va_G) (cs : Nat → ClassId) (A : Nat → Prop) (h0 : Nat) (Wf : (Nat → Nat) → va_W) (mc ms : Nat) : State → Prop := MQ below (va_Qv (fun _ => True) (cBn D cs A h0 Wf) A) args s mc ms A
theorem CN.of {l : Launch} {y : MethodName} {cc : ByteArray} {maxL : Nat} {rm : Room} {ad : Nat → Nat} {D : va_G} {cs : Nat → ClassId} {ci : Nat} {fs : List Value} {mc ms : Nat} {Wf : (Nat → Nat) → va_W} (hy : plainName y.cls = true) (hlen : 1 ≤ maxL)
    (body : ∀ (p : Program) (e : Env) (s : State) (m : MethodId) (args : Array Value) (below : List Frame) (meth : Method) (c : Code) (A : Nat → Prop) (h0 : Nat), Cx p s m args c cc maxL y.cls ad D (tysW cs) A → AOs ad s s.heap → meth.name = y.name → meth.sig.returnType = none → meth.locks = false → VN p l e rm s m args below meth c (QN below args s D cs A h0 Wf mc ms) D A maxL 0 0 [(h0, .inr (ci, fs))] 0 [(0, .ref h0)] []) : CN l y cc maxL rm ad D cs ci fs mc ms Wf := by
  intro h0 sz
  refine Met.ofW (cc := cc) (maxL := maxL) (ret := none) hy rfl ?_
  intro p e s m args below meth c s₁ B hml hv
  obtain ⟨rfl, hsz, hP, hK, hD0, hF, hO⟩ := hv
  subst hsz
  have h := body p e s m [Value.ref h0].toArray below meth c (va_A [(h0, .inr (ci, fs))] s.heap.size) h0 ⟨B.exec, B.bytes, hml, findClass_of_methodNamed B.named, fun w h => atoms_spec B.pre w (List.mem_cons_of_mem _ h), hK, hF, fun q h => Or.inr h⟩ hO (name_of_methodNamed B.named B.method).1 B.returns B.notSynchronized
  rw [lg_entry_eq]
  refine h s.heap [] _ hP hD0.self va_S.rf ?_
  exact lv_entry [.ref h0] hlen
theorem n_map1 {α : Type} (w : List α) (x : α) : (List.range w.length).map (fun i => (w ++ [x])[i]?) = w.map some := by
  apply List.ext_getElem?
  intro i
  rw [List.getElem?_map, List.getElem?_map]
  by_cases h : i < w.length
  · rw [List.getElem?_range h, Option.map_some, List.getElem?_append_left h, List.getElem?_eq_getElem h]; rfl
  · rw [List.getElem?_eq_none (by rw [List.length_range]; omega), List.getElem?_eq_none (by omega)]; rfl
theorem n_ndr : ∀ n k : Nat, va_nd ((List.range' k n)) = true
  | 0, _ => rfl
  | n + 1, k => by
    show (decide (k ∉ List.range' (k + 1) n) && va_nd (List.range' (k + 1) n)) = true
    rw [n_ndr n (k + 1), Bool.and_true]
    exact decide_eq_true (fun h => by have := (List.mem_range'_1.mp h).1; omega)
theorem n_nd (n : Nat) : va_nd (List.range n) = true := by rw [List.range_eq_range']; exact n_ndr n 0
theorem cs_uniq {D : va_G} {cs : Nat → ClassId} {s : State} {k : Nat} {ty : FieldType} {cA : ClassId} (hK : va_K D vwCl (tysW cs) s) (hk : (tysW cs)[k]? = some (cs k, ty)) (h : s.vm.findClass ("[" ++ ty.toString) = some cA) : cA = cs k := by
  have h1 := (hK.2 k _ hk).2
  cases ty with
  | object C => exact Option.some.inj (h.symm.trans h1.choose_spec.choose_spec.2.2.2)
  | _ => exact Option.some.inj (h.symm.trans h1)
theorem RA_find {s : State} {cA : ClassId} {ty : FieldType} (h1 : va_RA s cA ty) : s.vm.findClass ("[" ++ ty.toString) = some cA := by
  cases ty with
  | object C => exact h1.choose_spec.choose_spec.2.2.2
  | _ => exact h1
theorem K_last {D : va_G} {cs : Nat → ClassId} {s : State} {cA : ClassId} {ty : FieldType} {k : Nat} (hK : va_K D vwCl (tysW cs) s) (hk : (tysW cs)[k]? = some (cs k, ty)) (h : va_K D vwCl (tysW cs ++ [(cA, ty)]) s) : cA = cs k :=
  cs_uniq hK hk (RA_find (h.2 6 (cA, ty) rfl).2)
section VNR
variable {p : Program} {l : Launch} {e : Env} {R : Room} {s : State} {m : MethodId} {args : Array Value} {below : List Frame} {meth : Method} {c : Code} {Q : State → Prop} {ad : Nat → Nat} {D : va_G} {cs : Nat → ClassId} {A : Nat → Prop} {cc : ByteArray} {nL : Nat} {own : String} {w w' : va_W} {pc : Nat} {lv : List (Nat × Value)} {rest : List Value} {cells slots : Nat}
theorem n_iconst (C : Cx p s m args c cc nL own ad D (tysW cs) A) {n : Int} (v : Int32) (hdg : decode cc pc = .ok (.iconst n, 1)) (hv : Int32.ofInt n = v) (k : VN p l e R s m args below meth c Q D A nL cells slots w (pc + 1) lv (.int v :: rest)) : VN p l e R s m args below meth c Q D A nL cells slots w pc lv (rest) := fun H locs ls hP hD hS hl => lv_iconst C.1 C.2.1 hdg hv (k H locs ls hP hD hS hl)
theorem n_bipush (C : Cx p s m args c cc nL own ad D (tysW cs) A) {n : Int} (v : Int32) (hdg : decode cc pc = .ok (.bipush n, 2)) (hv : (Int8.ofInt n).toInt32 = v) (k : VN p l e R s m args below meth c Q D A nL cells slots w (pc + 2) lv (.int v :: rest)) : VN p l e R s m args below meth c Q D A nL cells slots w pc lv (rest) := fun H locs ls hP hD hS hl => lv_bipush C.1 C.2.1 hdg hv (k H locs ls hP hD hS hl)
theorem n_sipush (C : Cx p s m args c cc nL own ad D (tysW cs) A) {n : Int} (v : Int32) (hdg : decode cc pc = .ok (.sipush n, 3)) (hv : (Int16.ofInt n).toInt32 = v) (k : VN p l e R s m args below meth c Q D A nL cells slots w (pc + 3) lv (.int v :: rest)) : VN p l e R s m args below meth c Q D A nL cells slots w pc lv (rest) := fun H locs ls hP hD hS hl => lv_sipush C.1 C.2.1 hdg hv (k H locs ls hP hD hS hl)
theorem n_dup (C : Cx p s m args c cc nL own ad D (tysW cs) A) {v : Value} (hdg : decode cc pc = .ok (.dup, 1)) (hc : v.category = 1) (k : VN p l e R s m args below meth c Q D A nL cells slots w (pc + 1) lv (v :: v :: rest)) : VN p l e R s m args below meth c Q D A nL cells slots w pc lv (v :: rest) := fun H locs ls hP hD hS hl => lv_dup C.1 C.2.1 hdg hc (k H locs ls hP hD hS hl)
theorem n_aload_n (C : Cx p s m args c cc nL own ad D (tysW cs) A) {kf : Fin 4} {i : Nat} {x : Nat} (kk : Nat) (hdg : decode cc pc = .ok (.aload_n kf, 1)) (hi : (kf : Nat) = i) (hk : lv[kk]? = some (i, .ref x)) (k : VN p l e R s m args below meth c Q D A nL cells slots w (pc + 1) lv (.ref x :: rest)) : VN p l e R s m args below meth c Q D A nL cells slots w pc lv (rest) := fun H locs ls hP hD hS hl => lv_aload_n C.1 C.2.1 hdg hi (lv_at hl kk hk) (k H locs ls hP hD hS hl)
theorem n_iload_n (C : Cx p s m args c cc nL own ad D (tysW cs) A) {kf : Fin 4} {i : Nat} {x : Int32} (kk : Nat) (hdg : decode cc pc = .ok (.iload_n kf, 1)) (hi : (kf : Nat) = i) (hk : lv[kk]? = some (i, .int x)) (k : VN p l e R s m args below meth c Q D A nL cells slots w (pc + 1) lv (.int x :: rest)) : VN p l e R s m args below meth c Q D A nL cells slots w pc lv (rest) := fun H locs ls hP hD hS hl => lv_iload_n C.1 C.2.1 hdg hi (lv_at hl kk hk) (k H locs ls hP hD hS hl)
theorem n_istore_n (C : Cx p s m args c cc nL own ad D (tysW cs) A) {kf : Fin 4} {i : Nat} {x : Int32} (lv' : List (Nat × Value)) (hdg : decode cc pc = .ok (.istore_n kf, 1)) (hi : (kf : Nat) = i) (hn : i < nL) (hq : (i, Value.int x) :: lv.filter (fun q => !(q.1 == i) && !(q.1 + 1 == i && q.2.category == 2)) = lv') (k : VN p l e R s m args below meth c Q D A nL cells slots w (pc + 1) lv' (rest)) : VN p l e R s m args below meth c Q D A nL cells slots w pc lv (.int x :: rest) := fun H locs ls hP hD hS hl => lv_istore_n C.1 C.2.1 hdg hi hl hn hq (fun ls2 hl2 => k H locs ls2 hP hD hS hl2)
theorem n_astore_n (C : Cx p s m args c cc nL own ad D (tysW cs) A) {kf : Fin 4} {i : Nat} {x : Nat} (lv' : List (Nat × Value)) (hdg : decode cc pc = .ok (.astore_n kf, 1)) (hi : (kf : Nat) = i) (hn : i < nL) (hq : (i, Value.ref x) :: lv.filter (fun q => !(q.1 == i) && !(q.1 + 1 == i && q.2.category == 2)) = lv') (k : VN p l e R s m args below meth c Q D A nL cells slots w (pc + 1) lv' (rest)) : VN p l e R s m args below meth c Q D A nL cells slots w pc lv (.ref x :: rest) := fun H locs ls hP hD hS hl => lv_astore_n C.1 C.2.1 hdg hi hl hn hq (fun ls2 hl2 => k H locs ls2 hP hD hS hl2)
theorem n_iinc (C : Cx p s m args c cc nL own ad D (tysW cs) A) {i : Nat} {n : Int} {x : Int32} (v : Int32) (kk : Nat) (lv' : List (Nat × Value)) (hdg : decode cc pc = .ok (.iinc i n, 3)) (hk : lv[kk]? = some (i, .int x)) (hv : x + Int32.ofInt n = v) (hn : i < nL) (hq : (i, Value.int v) :: lv.filter (fun q => !(q.1 == i) && !(q.1 + 1 == i && q.2.category == 2)) = lv') (k : VN p l e R s m args below meth c Q D A nL cells slots w (pc + 3) lv' (rest)) : VN p l e R s m args below meth c Q D A nL cells slots w pc lv (rest) := fun H locs ls hP hD hS hl => lv_iinc C.1 C.2.1 hdg hl hk hv hn hq (fun ls2 hl2 => k H locs ls2 hP hD hS hl2)
theorem n_goto (C : Cx p s m args c cc nL own ad D (tysW cs) A) {off : Int} (tgt : Nat) (hdg : decode cc pc = .ok (.goto off, 3)) (ht : (pc : Int) + off = (tgt : Int)) (k : VN p l e R s m args below meth c Q D A nL cells slots w tgt lv (rest)) : VN p l e R s m args below meth c Q D A nL cells slots w pc lv (rest) := fun H locs ls hP hD hS hl => lv_goto C.1 C.2.1 hdg ht (k H locs ls hP hD hS hl)
theorem n_icmp_ge (C : Cx p s m args c cc nL own ad D (tysW cs) A) {x y : Int32} {off : Int} (tgt : Nat) (hdg : decode cc pc = .ok (.if_icmp .ge off, 3)) (ht : (pc : Int) + off = (tgt : Int)) (kt : y ≤ x → VN p l e R s m args below meth c Q D A nL cells slots w tgt lv (rest)) (kf : ¬ y ≤ x → VN p l e R s m args below meth c Q D A nL cells slots w (pc + 3) lv (rest)) : VN p l e R s m args below meth c Q D A nL cells slots w pc lv (.int y :: .int x :: rest) := fun H locs ls hP hD hS hl => lv_icmp_ge C.1 C.2.1 hdg ht (fun h => kt h H locs ls hP hD hS hl) (fun h => kf h H locs ls hP hD hS hl)
theorem n_icmp_gt (C : Cx p s m args c cc nL own ad D (tysW cs) A) {x y : Int32} {off : Int} (tgt : Nat) (hdg : decode cc pc = .ok (.if_icmp .gt off, 3)) (ht : (pc : Int) + off = (tgt : Int)) (kt : y < x → VN p l e R s m args below meth c Q D A nL cells slots w tgt lv (rest)) (kf : ¬ y < x → VN p l e R s m args below meth c Q D A nL cells slots w (pc + 3) lv (rest)) : VN p l e R s m args below meth c Q D A nL cells slots w pc lv (.int y :: .int x :: rest) := fun H locs ls hP hD hS hl => lv_icmp_gt C.1 C.2.1 hdg ht (fun h => kt h H locs ls hP hD hS hl) (fun h => kf h H locs ls hP hD hS hl)
theorem n_icmp_eq (C : Cx p s m args c cc nL own ad D (tysW cs) A) {x y : Int32} {off : Int} (tgt : Nat) (hdg : decode cc pc = .ok (.if_icmp .eq off, 3)) (ht : (pc : Int) + off = (tgt : Int)) (kt : x = y → VN p l e R s m args below meth c Q D A nL cells slots w tgt lv (rest)) (kf : ¬ x = y → VN p l e R s m args below meth c Q D A nL cells slots w (pc + 3) lv (rest)) : VN p l e R s m args below meth c Q D A nL cells slots w pc lv (.int y :: .int x :: rest) := fun H locs ls hP hD hS hl => lv_icmp_eq C.1 C.2.1 hdg ht (fun h => kt h H locs ls hP hD hS hl) (fun h => kf h H locs ls hP hD hS hl)
theorem n_oi (C : Cx p s m args c cc nL own ad D (tysW cs) A) {index a : Nat} (hlk : Cond.methodLink own index objectInit ∈ ALLW) (hf : 1 ≤ R.frames) (hlo : 20 ≤ R.locals) (hro : (rest.map fun v => v.category).sum ≤ 8) (hdg : decode cc pc = .ok (.invokespecial index, 3)) (k : VN p l e R s m args below meth c Q D A nL cells slots w (pc + 3) lv (rest)) : VN p l e R s m args below meth c Q D A nL cells slots w pc lv (.ref a :: rest) := fun H locs ls hP hD hS hl => 
  W.objInit C.1 C.2.1 C.2.2.2.1 (C.2.2.2.2.1 _ hlk) (C.2.2.2.2.1 _ im_objectInit) (C.2.2.2.2.1 _ co_oi) rfl (by rw [C.2.2.1]; exact hl.1) rfl hdg hf (by show 2 * 0 + _ + 12 ≤ _; omega) (k H locs ls hP hD hS hl)
theorem n_new_int (C : Cx p s m args c cc nL own ad D (tysW cs) A) {n : Int32} (N : Nat) (hn : n = nI N) (hN : N ≤ 1000) (hc : cells + 1 ≤ R.cells) (hs : slots + N ≤ R.slots) (hdg : decode cc pc = .ok (.newarray .int, 2)) (k : ∀ q, VN p l e R s m args below meth c Q D A nL (cells + 1) (slots + N) (w ++ [(q, .inl (cs 0, N, .inl (fun _ => 0)))]) (pc + 2) lv (.ref q :: rest)) : VN p l e R s m args below meth c Q D A nL cells slots w pc lv (.int n :: rest) := fun H locs ls hP hD hS hl => by
  subst hn
  refine va_newa (atype := .int) (ty := .int) (a0 := (N, .inl (fun _ => 0))) (N' := N) C.1 C.2.1 (C.2.2.2.2.1 _ ac_int) rfl C.2.2.2.2.2.1 hP hD hS C.2.2.2.2.2.2.2 (fun _ => rfl) (nI_pos (by omega)) (nI_clamp (by omega)) (by show N * 4 ≤ 536870912; omega) hc hs hdg (fun q cA H1 hK1 hP1 hD1 hS1 => ?_)
  obtain rfl : cA = cs 0 := K_last C.2.2.2.2.2.1 rfl hK1
  exact k q H1 locs ls hP1 hD1 hS1 hl
theorem n_new_byte (C : Cx p s m args c cc nL own ad D (tysW cs) A) {n : Int32} (N : Nat) (hn : n = nI N) (hN : N ≤ 1000) (hc : cells + 1 ≤ R.cells) (hs : slots + N ≤ R.slots) (hdg : decode cc pc = .ok (.newarray .byte, 2)) (k : ∀ q, VN p l e R s m args below meth c Q D A nL (cells + 1) (slots + N) (w ++ [(q, .inl (cs 1, N, .inl (fun _ => 0)))]) (pc + 2) lv (.ref q :: rest)) : VN p l e R s m args below meth c Q D A nL cells slots w pc lv (.int n :: rest) := fun H locs ls hP hD hS hl => by
  subst hn
  refine va_newa (atype := .byte) (ty := .byte) (a0 := (N, .inl (fun _ => 0))) (N' := N) C.1 C.2.1 (C.2.2.2.2.1 _ ac_byte) rfl C.2.2.2.2.2.1 hP hD hS C.2.2.2.2.2.2.2 (fun _ => rfl) (nI_pos (by omega)) (nI_clamp (by omega)) (by show N * 1 ≤ 536870912; omega) hc hs hdg (fun q cA H1 hK1 hP1 hD1 hS1 => ?_)
  obtain rfl : cA = cs 1 := K_last C.2.2.2.2.2.1 rfl hK1
  exact k q H1 locs ls hP1 hD1 hS1 hl
theorem n_new_long (C : Cx p s m args c cc nL own ad D (tysW cs) A) {n : Int32} (N : Nat) (hn : n = nI N) (hN : N ≤ 1000) (hc : cells + 1 ≤ R.cells) (hs : slots + N ≤ R.slots) (hdg : decode cc pc = .ok (.newarray .long, 2)) (k : ∀ q, VN p l e R s m args below meth c Q D A nL (cells + 1) (slots + N) (w ++ [(q, .inl (cs 2, N, .inr (.inl (fun _ => 0))))]) (pc + 2) lv (.ref q :: rest)) : VN p l e R s m args below meth c Q D A nL cells slots w pc lv (.int n :: rest) := fun H locs ls hP hD hS hl => by
  subst hn
  refine va_newa (atype := .long) (ty := .long) (a0 := (N, .inr (.inl (fun _ => 0)))) (N' := N) C.1 C.2.1 (C.2.2.2.2.1 _ ac_long) rfl C.2.2.2.2.2.1 hP hD hS C.2.2.2.2.2.2.2 (fun _ => rfl) (nI_pos (by omega)) (nI_clamp (by omega)) (by show N * 8 ≤ 536870912; omega) hc hs hdg (fun q cA H1 hK1 hP1 hD1 hS1 => ?_)
  obtain rfl : cA = cs 2 := K_last C.2.2.2.2.2.1 rfl hK1
  exact k q H1 locs ls hP1 hD1 hS1 hl
def fs0 : List Value := [.null, .null, .int 0, .int 0, .int 0, .int 0]
theorem fs0_ok : ∀ j, j < 6 → defaultValue (tyX0 j) = vp_V fs0 j := by
  intro j hj
  have hc : j = 0 ∨ j = 1 ∨ j = 2 ∨ j = 3 ∨ j = 4 ∨ j = 5 := by omega
  rcases hc with rfl | rfl | rfl | rfl | rfl | rfl <;> rfl
theorem n_new0 (C : Cx p s m args c cc nL own ad D (tysW cs) A) {index : Nat} (hcl : Cond.classLink own index RX0 ∈ ALLW) (hc : cells + 1 ≤ R.cells) (hs : slots + 6 ≤ R.slots) (hdg : decode cc pc = .ok (.new index, 3)) (k : ∀ q, VN p l e R s m args below meth c Q D A nL (cells + 1) (slots + 6) (w ++ [(q, .inr (0, fs0))]) (pc + 3) lv (.ref q :: rest)) : VN p l e R s m args below meth c Q D A nL cells slots w pc lv (rest) := fun H locs ls hP hD hS hl => 
  va_new (c0 := c) (C := RX0) (T := TX0) (N := 6) (ci := 0) (fs := fs0) C.1 C.2.1 C.2.2.2.2.1 iw_0 tyX0 tyX0_ok C.2.2.2.1 (C.2.2.2.2.1 _ hcl) (C.2.2.2.2.1 _ ia_RX0) (C.2.2.2.2.1 _ in_RX0) C.2.2.2.2.2.1 hP hD hS C.2.2.2.2.2.2.2 rfl fs0_ok hc hs hdg (fun q H1 hP1 hD1 hS1 => k q H1 locs ls hP1 hD1 hS1 hl)
def fs1 : List Value := [.null, .int 0, .int 0]
theorem fs1_ok : ∀ j, j < 3 → defaultValue (tyX1 j) = vp_V fs1 j := by
  intro j hj
  have hc : j = 0 ∨ j = 1 ∨ j = 2 := by omega
  rcases hc with rfl | rfl | rfl <;> rfl
theorem n_new1 (C : Cx p s m args c cc nL own ad D (tysW cs) A) {index : Nat} (hcl : Cond.classLink own index RX1 ∈ ALLW) (hc : cells + 1 ≤ R.cells) (hs : slots + 3 ≤ R.slots) (hdg : decode cc pc = .ok (.new index, 3)) (k : ∀ q, VN p l e R s m args below meth c Q D A nL (cells + 1) (slots + 3) (w ++ [(q, .inr (1, fs1))]) (pc + 3) lv (.ref q :: rest)) : VN p l e R s m args below meth c Q D A nL cells slots w pc lv (rest) := fun H locs ls hP hD hS hl => 
  va_new (c0 := c) (C := RX1) (T := TX1) (N := 3) (ci := 1) (fs := fs1) C.1 C.2.1 C.2.2.2.2.1 iw_1 tyX1 tyX1_ok C.2.2.2.1 (C.2.2.2.2.1 _ hcl) (C.2.2.2.2.1 _ ia_RX1) (C.2.2.2.2.1 _ in_RX1) C.2.2.2.2.2.1 hP hD hS C.2.2.2.2.2.2.2 rfl fs1_ok hc hs hdg (fun q H1 hP1 hD1 hS1 => k q H1 locs ls hP1 hD1 hS1 hl)
def fs2 : List Value := [.int 0, .int 0, .int 0]
theorem fs2_ok : ∀ j, j < 3 → defaultValue (tyX2 j) = vp_V fs2 j := by
  intro j hj
  have hc : j = 0 ∨ j = 1 ∨ j = 2 := by omega
  rcases hc with rfl | rfl | rfl <;> rfl
theorem n_new2 (C : Cx p s m args c cc nL own ad D (tysW cs) A) {index : Nat} (hcl : Cond.classLink own index RX2 ∈ ALLW) (hc : cells + 1 ≤ R.cells) (hs : slots + 3 ≤ R.slots) (hdg : decode cc pc = .ok (.new index, 3)) (k : ∀ q, VN p l e R s m args below meth c Q D A nL (cells + 1) (slots + 3) (w ++ [(q, .inr (2, fs2))]) (pc + 3) lv (.ref q :: rest)) : VN p l e R s m args below meth c Q D A nL cells slots w pc lv (rest) := fun H locs ls hP hD hS hl => 
  va_new (c0 := c) (C := RX2) (T := TX2) (N := 3) (ci := 2) (fs := fs2) C.1 C.2.1 C.2.2.2.2.1 iw_2 tyX2 tyX2_ok C.2.2.2.1 (C.2.2.2.2.1 _ hcl) (C.2.2.2.2.1 _ ia_RX2) (C.2.2.2.2.1 _ in_RX2) C.2.2.2.2.2.1 hP hD hS C.2.2.2.2.2.2.2 rfl fs2_ok hc hs hdg (fun q H1 hP1 hD1 hS1 => k q H1 locs ls hP1 hD1 hS1 hl)
def fs3 : List Value := [.null, .int 0, .null, .int 0, .int 0, .int 0]
theorem fs3_ok : ∀ j, j < 6 → defaultValue (tyX3 j) = vp_V fs3 j := by
  intro j hj
  have hc : j = 0 ∨ j = 1 ∨ j = 2 ∨ j = 3 ∨ j = 4 ∨ j = 5 := by omega
  rcases hc with rfl | rfl | rfl | rfl | rfl | rfl <;> rfl
theorem n_new3 (C : Cx p s m args c cc nL own ad D (tysW cs) A) {index : Nat} (hcl : Cond.classLink own index RX3 ∈ ALLW) (hc : cells + 1 ≤ R.cells) (hs : slots + 6 ≤ R.slots) (hdg : decode cc pc = .ok (.new index, 3)) (k : ∀ q, VN p l e R s m args below meth c Q D A nL (cells + 1) (slots + 6) (w ++ [(q, .inr (3, fs3))]) (pc + 3) lv (.ref q :: rest)) : VN p l e R s m args below meth c Q D A nL cells slots w pc lv (rest) := fun H locs ls hP hD hS hl => 
  va_new (c0 := c) (C := RX3) (T := TX3) (N := 6) (ci := 3) (fs := fs3) C.1 C.2.1 C.2.2.2.2.1 iw_3 tyX3 tyX3_ok C.2.2.2.1 (C.2.2.2.2.1 _ hcl) (C.2.2.2.2.1 _ ia_RX3) (C.2.2.2.2.1 _ in_RX3) C.2.2.2.2.2.1 hP hD hS C.2.2.2.2.2.2.2 rfl fs3_ok hc hs hdg (fun q H1 hP1 hD1 hS1 => k q H1 locs ls hP1 hD1 hS1 hl)
def fs4 : List Value := [.null, .int 0, .int 0, .int 0, .int 0, .int 0]
theorem fs4_ok : ∀ j, j < 6 → defaultValue (tyX4 j) = vp_V fs4 j := by
  intro j hj
  have hc : j = 0 ∨ j = 1 ∨ j = 2 ∨ j = 3 ∨ j = 4 ∨ j = 5 := by omega
  rcases hc with rfl | rfl | rfl | rfl | rfl | rfl <;> rfl
theorem n_new4 (C : Cx p s m args c cc nL own ad D (tysW cs) A) {index : Nat} (hcl : Cond.classLink own index RX4 ∈ ALLW) (hc : cells + 1 ≤ R.cells) (hs : slots + 6 ≤ R.slots) (hdg : decode cc pc = .ok (.new index, 3)) (k : ∀ q, VN p l e R s m args below meth c Q D A nL (cells + 1) (slots + 6) (w ++ [(q, .inr (4, fs4))]) (pc + 3) lv (.ref q :: rest)) : VN p l e R s m args below meth c Q D A nL cells slots w pc lv (rest) := fun H locs ls hP hD hS hl => 
  va_new (c0 := c) (C := RX4) (T := TX4) (N := 6) (ci := 4) (fs := fs4) C.1 C.2.1 C.2.2.2.2.1 iw_4 tyX4 tyX4_ok C.2.2.2.1 (C.2.2.2.2.1 _ hcl) (C.2.2.2.2.1 _ ia_RX4) (C.2.2.2.2.1 _ in_RX4) C.2.2.2.2.2.1 hP hD hS C.2.2.2.2.2.2.2 rfl fs4_ok hc hs hdg (fun q H1 hP1 hD1 hS1 => k q H1 locs ls hP1 hD1 hS1 hl)
def fs5 : List Value := [.null, .null, .null, .int 0, .null, .null, .int 0, .null, .null, .null, .null]
theorem fs5_ok : ∀ j, j < 11 → defaultValue (tyX5 j) = vp_V fs5 j := by
  intro j hj
  have hc : j = 0 ∨ j = 1 ∨ j = 2 ∨ j = 3 ∨ j = 4 ∨ j = 5 ∨ j = 6 ∨ j = 7 ∨ j = 8 ∨ j = 9 ∨ j = 10 := by omega
  rcases hc with rfl | rfl | rfl | rfl | rfl | rfl | rfl | rfl | rfl | rfl | rfl <;> rfl
theorem n_new5 (C : Cx p s m args c cc nL own ad D (tysW cs) A) {index : Nat} (hcl : Cond.classLink own index RX5 ∈ ALLW) (hc : cells + 1 ≤ R.cells) (hs : slots + 11 ≤ R.slots) (hdg : decode cc pc = .ok (.new index, 3)) (k : ∀ q, VN p l e R s m args below meth c Q D A nL (cells + 1) (slots + 11) (w ++ [(q, .inr (5, fs5))]) (pc + 3) lv (.ref q :: rest)) : VN p l e R s m args below meth c Q D A nL cells slots w pc lv (rest) := fun H locs ls hP hD hS hl => 
  va_new (c0 := c) (C := RX5) (T := TX5) (N := 11) (ci := 5) (fs := fs5) C.1 C.2.1 C.2.2.2.2.1 iw_5 tyX5 tyX5_ok C.2.2.2.1 (C.2.2.2.2.1 _ hcl) (C.2.2.2.2.1 _ ia_RX5) (C.2.2.2.2.1 _ in_RX5) C.2.2.2.2.2.1 hP hD hS C.2.2.2.2.2.2.2 rfl fs5_ok hc hs hdg (fun q H1 hP1 hD1 hS1 => k q H1 locs ls hP1 hD1 hS1 hl)
def fs6 : List Value := [.null, .null, .null, .null, .int 0, .null, .int 0, .int 0, .int 0, .int 0, .int 0, .int 0, .null, .null, .int 0, .null, .null, .null, .null, .null, .null, .null, .int 0, .int 0, .int 0, .int 0, .int 0]
theorem fs6_ok : ∀ j, j < 27 → defaultValue (tyX6 j) = vp_V fs6 j := by
  intro j hj
  have hc : j = 0 ∨ j = 1 ∨ j = 2 ∨ j = 3 ∨ j = 4 ∨ j = 5 ∨ j = 6 ∨ j = 7 ∨ j = 8 ∨ j = 9 ∨ j = 10 ∨ j = 11 ∨ j = 12 ∨ j = 13 ∨ j = 14 ∨ j = 15 ∨ j = 16 ∨ j = 17 ∨ j = 18 ∨ j = 19 ∨ j = 20 ∨ j = 21 ∨ j = 22 ∨ j = 23 ∨ j = 24 ∨ j = 25 ∨ j = 26 := by omega
  rcases hc with rfl | rfl | rfl | rfl | rfl | rfl | rfl | rfl | rfl | rfl | rfl | rfl | rfl | rfl | rfl | rfl | rfl | rfl | rfl | rfl | rfl | rfl | rfl | rfl | rfl | rfl | rfl <;> rfl
theorem n_new6 (C : Cx p s m args c cc nL own ad D (tysW cs) A) {index : Nat} (hcl : Cond.classLink own index RX6 ∈ ALLW) (hc : cells + 1 ≤ R.cells) (hs : slots + 27 ≤ R.slots) (hdg : decode cc pc = .ok (.new index, 3)) (k : ∀ q, VN p l e R s m args below meth c Q D A nL (cells + 1) (slots + 27) (w ++ [(q, .inr (6, fs6))]) (pc + 3) lv (.ref q :: rest)) : VN p l e R s m args below meth c Q D A nL cells slots w pc lv (rest) := fun H locs ls hP hD hS hl => 
  va_new (c0 := c) (C := RX6) (T := TX6) (N := 27) (ci := 6) (fs := fs6) C.1 C.2.1 C.2.2.2.2.1 iw_6 tyX6 tyX6_ok C.2.2.2.1 (C.2.2.2.2.1 _ hcl) (C.2.2.2.2.1 _ ia_RX6) (C.2.2.2.2.1 _ in_RX6) C.2.2.2.2.2.1 hP hD hS C.2.2.2.2.2.2.2 rfl fs6_ok hc hs hdg (fun q H1 hP1 hD1 hS1 => k q H1 locs ls hP1 hD1 hS1 hl)
theorem n_ctor (C : Cx p s m args c cc nL own ad D (tysW cs) A) (hO : AOs ad s s.heap) {y : MethodName} {bytes : ByteArray} {maxL index : Nat} {rm : Room} {ci : Nat} {fs : List Value} {mc ms : Nat} {Wf : (Nat → Nat) → va_W} {q : Nat} {run : (∀ (H : Heap) (locs : List Loc) (ls : Array Slot) (st : List Value), ls.size = nL → PreS s H (cPn ad D cs [(q, .inr (ci, fs))] H.size [.ref q]) [.ref q] → va_Run p l e R s m args below meth c H locs cells slots mc ms (F0 m pc ls (.ref q :: rest)) rest ((va_Qv (fun _ => True) (cBn D cs (va_A [(q, .inr (ci, fs))] H.size) q Wf) (va_A [(q, .inr (ci, fs))] H.size)) [Value.ref q].toArray) (va_A [(q, .inr (ci, fs))] H.size))} (k : ∀ g : Nat → Nat, g 0 = q → VN p l e R s m args below meth c Q D A nL (cells + mc) (slots + ms) (w ++ Wf g) (pc + 3) lv (rest)) : VN p l e R s m args below meth c Q D A nL cells slots (w ++ [(q, .inr (ci, fs))]) pc lv (.ref q :: rest) := fun H locs ls hP hD hS hl => by
  have hPc : va_P D vwCl [(q, .inr (ci, fs))] H := hP.sub [w.length] (by simp)
  have hDc : va_D A [(q, .inr (ci, fs))] := hD.sub [w.length] rfl (by simp)
  have hF := va_free (wc := [(q, .inr (ci, fs))]) hD hS C.2.2.2.2.2.2.2 [w.length] (by simp)
  have hAad : ¬ A (ad 0) := by obtain ⟨scr, -, -, -, -, -, -, h7⟩ := (C_t0 C).2; exact h7
  have hlt : ad 0 < s.heap.size := by obtain ⟨scr, h1, -⟩ := (C_t0 C).2; exact (Array.getElem?_eq_some_iff.mp h1).1
  have hp : PreS s H (cPn ad D cs [(q, .inr (ci, fs))] H.size [.ref q]) [.ref q] := ⟨cPn_blind, fun U hU hW => ⟨rfl, by rw [hU], by rw [hU]; exact hPc, va_K.moved hW.alike C.2.2.2.2.2.1, hDc.weaken (fun _ _ _ _ => trivial), by
    rw [hU]
    exact SF.warm hW (((C_sf C).kept hS.2.1).narrow hF), by
    rw [hU]
    exact AOs.warm hW (hO.kept (hS.2.1 (ad 0) hlt hAad))⟩⟩
  refine va_callv (run H locs ls (.ref q :: rest) hl.1 hp) hS (fun q2 _ h => hF q2 h) hF (fun u t H1 locs1 ht hvm hw hB hz1 hk1 hS1 => ?_)
  obtain ⟨g, hg, hP1, hK1, hD1⟩ := hB
  rw [ht] at hP1
  obtain ⟨hP2, hD2⟩ := va_join (wr := w) (w1 := Wf g) (wc := [(q, .inr (ci, fs))]) hP hD [w.length] (List.range w.length) (by simp) (n_map1 w _) (n_nd _) (fun i hi => by have := List.mem_range.mp hi; simp; omega) hk1 hF hP1 hD1
  exact k g hg H1 locs1 ls hP2 hD2 hS1 hl
theorem n_initN (C : Cx p s m args c cc nL own ad D (tysW cs) A) (hO : AOs ad s s.heap) {y : MethodName} {host : String} {bytes : ByteArray} {maxL index : Nat} {rm : Room} {ci : Nat} {fs : List Value} {mc ms : Nat} {Wf : (Nat → Nat) → va_W} (hM : CN l y bytes maxL rm ad D cs ci fs mc ms Wf) (hms : Cond.instanceMethod y ∈ ALLW ∧ Cond.initialized y.cls ∈ ALLW ∧ Cond.code y bytes maxL none ∈ ALLW ∧ y.cls ≠ "java/lang/invoke/MethodHandle" ∧ y.cls ≠ "java/lang/invoke/VarHandle" ∧ (parseMethodDescriptor y.desc).map (fun d => d.parameters.length) = some 0) (hy : y.name = "<init>") (hlk : va_Nw (.methodLinkNest own index y host) s) (hR : rm.frames + 1 ≤ R.frames ∧ 8 + (maxL + 11) + rm.locals ≤ R.locals) (hrm : rm.cells = mc ∧ rm.slots = ms) {q : Nat} (hro : (rest.map fun v => v.category).sum ≤ 8) (hdg : decode cc pc = .ok (.invokespecial index, 3)) (hc : cells + mc ≤ R.cells ∧ slots + ms ≤ R.slots) (k : ∀ g : Nat → Nat, g 0 = q → VN p l e R s m args below meth c Q D A nL (cells + mc) (slots + ms) (w ++ Wf g) (pc + 3) lv (rest)) : VN p l e R s m args below meth c Q D A nL cells slots (w ++ [(q, .inr (ci, fs))]) pc lv (.ref q :: rest) :=
  n_ctor C hO (y := y) (bytes := bytes) (maxL := maxL) (index := index) (rm := rm) (run := fun H locs ls st hsz hp => va_runIN ⟨C.1, C.2.1, C.2.2.1, C.2.2.2.1, C.2.2.2.2.1⟩ (hM q H.size) ⟨va_cnB 0 C.2.2.2.2.1 (fun w hw => gw_all (by rcases List.mem_cons.mp hw with rfl | hw2; exact hms.2.2.1; exact hw2)) rfl hrm.1 hrm.2 hlk (C.2.2.2.2.1 _ hms.2.1) hms.2.2.2 hR, hy, C.2.2.2.2.1 _ hms.1⟩ hp rfl rfl hsz rfl (lv_room hro) hdg hc) k
theorem n_initI (C : Cx p s m args c cc nL own ad D (tysW cs) A) (hO : AOs ad s s.heap) {y : MethodName} {bytes : ByteArray} {maxL index : Nat} {rm : Room} {ci : Nat} {fs : List Value} {mc ms : Nat} {Wf : (Nat → Nat) → va_W} (hM : CN l y bytes maxL rm ad D cs ci fs mc ms Wf) (hms : Cond.instanceMethod y ∈ ALLW ∧ Cond.initialized y.cls ∈ ALLW ∧ Cond.code y bytes maxL none ∈ ALLW ∧ y.cls ≠ "java/lang/invoke/MethodHandle" ∧ y.cls ≠ "java/lang/invoke/VarHandle" ∧ (parseMethodDescriptor y.desc).map (fun d => d.parameters.length) = some 0) (hy : y.name = "<init>") (hlk : Cond.methodLink own index y ∈ ALLW) (hR : rm.frames + 1 ≤ R.frames ∧ 8 + (maxL + 11) + rm.locals ≤ R.locals) (hrm : rm.cells = mc ∧ rm.slots = ms) {q : Nat} (hro : (rest.map fun v => v.category).sum ≤ 8) (hdg : decode cc pc = .ok (.invokespecial index, 3)) (hc : cells + mc ≤ R.cells ∧ slots + ms ≤ R.slots) (k : ∀ g : Nat → Nat, g 0 = q → VN p l e R s m args below meth c Q D A nL (cells + mc) (slots + ms) (w ++ Wf g) (pc + 3) lv (rest)) : VN p l e R s m args below meth c Q D A nL cells slots (w ++ [(q, .inr (ci, fs))]) pc lv (.ref q :: rest) :=
  n_ctor C hO (y := y) (bytes := bytes) (maxL := maxL) (index := index) (rm := rm) (run := fun H locs ls st hsz hp => va_runI ⟨C.1, C.2.1, C.2.2.1, C.2.2.2.1, C.2.2.2.2.1⟩ (hM q H.size) (cwI 0 C.2.2.2.2.1 (fun w hw => gw_all (by rcases List.mem_cons.mp hw with rfl | hw2; exact hms.2.2.1; exact hw2)) rfl hrm.1 hrm.2 (C.2.2.2.2.1 _ hms.2.1) (C.2.2.2.2.1 _ hlk) (C.2.2.2.2.1 _ hms.1) hy hms.2.2.2 hR) hp rfl rfl hsz rfl (lv_room hro) hdg hc) k
theorem n_putF (C : Cx p s m args c cc nL own ad D (tysW cs) A) {ref Cn : String} {T : u_T} {N ci index a : Nat} (hin : ∀ w ∈ u_ws Cn T N, w ∈ ALLW) (ty0 : Nat → FieldType) (hty : ∀ k, k < N → parseFieldDescriptor (T k).2.2.1 = some (ty0 k)) (hnm : ∀ a, a < N → ∀ b, b < N → a ≠ b → (T a).2.1 ≠ (T b).2.1) (q0 : Nat) {fs : List Value} (he : w[q0]? = some (a, .inr (ci, fs))) (hc : vwCl[ci]? = some (Cn, T, N)) (k : Nat) (hk : k < N) (hlink : Cond.fieldLink own index ref (T k).2.1 (T k).2.2.1 ∈ ALLW) (href : (T k).1 = ref) (hfin : (T k).2.2.2 = true) (hin2 : meth.name = "<init>") (hdecl : (T k).1 = own) {ty : FieldType} {v : Value} (hd : parseFieldDescriptor (T k).2.2.1 = some ty) (hn : narrow ty v = v) (hfit : fits ty v = true) (hl2 : k < fs.length) (hdg : decode cc pc = .ok (.putfield index, 3)) (hb2 : w.set q0 (a, .inr (ci, fs.set k v)) = w') (kk : VN p l e R s m args below meth c Q D A nL cells slots w' (pc + 3) lv (rest)) : VN p l e R s m args below meth c Q D A nL cells slots w pc lv (v :: .ref a :: rest) := fun H locs ls hP hD hS hl => by
  refine va_putF C.1 C.2.1 C.2.2.2.2.1 hin ty0 hty hnm C.2.2.2.1 C.2.2.2.2.2.1 hP hD hS q0 he hc k hk (C.2.2.2.2.1 _ hlink) (fun _ h => href ▸ h) hfin hin2 hdecl hd hn hfit hl2 hdg (fun H1 locs1 hP1 hD1 hS1 => ?_)
  rw [hb2] at hP1 hD1
  exact kk H1 locs1 ls hP1 hD1 hS1 hl
theorem n_put (C : Cx p s m args c cc nL own ad D (tysW cs) A) {ref Cn : String} {T : u_T} {N ci index a : Nat} (hin : ∀ w ∈ u_ws Cn T N, w ∈ ALLW) (ty0 : Nat → FieldType) (hty : ∀ k, k < N → parseFieldDescriptor (T k).2.2.1 = some (ty0 k)) (hnm : ∀ a, a < N → ∀ b, b < N → a ≠ b → (T a).2.1 ≠ (T b).2.1) (q0 : Nat) {fs : List Value} (he : w[q0]? = some (a, .inr (ci, fs))) (hc : vwCl[ci]? = some (Cn, T, N)) (k : Nat) (hk : k < N) (hlink : Cond.fieldLink own index ref (T k).2.1 (T k).2.2.1 ∈ ALLW) (href : (T k).1 = ref) (hfin : (T k).2.2.2 = false) {ty : FieldType} {v : Value} (hd : parseFieldDescriptor (T k).2.2.1 = some ty) (hn : narrow ty v = v) (hfit : fits ty v = true) (hl2 : k < fs.length) (hdg : decode cc pc = .ok (.putfield index, 3)) (hb2 : w.set q0 (a, .inr (ci, fs.set k v)) = w') (kk : VN p l e R s m args below meth c Q D A nL cells slots w' (pc + 3) lv (rest)) : VN p l e R s m args below meth c Q D A nL cells slots w pc lv (v :: .ref a :: rest) := fun H locs ls hP hD hS hl => by
  refine va_put C.1 C.2.1 C.2.2.2.2.1 hin ty0 hty hnm C.2.2.2.1 C.2.2.2.2.2.1 hP hD hS q0 he hc k hk (C.2.2.2.2.1 _ hlink) (fun _ h => href ▸ h) hfin hd hn hfit hl2 hdg (fun H1 locs1 hP1 hD1 hS1 => ?_)
  rw [hb2] at hP1 hD1
  exact kk H1 locs1 ls hP1 hD1 hS1 hl
theorem n_get (C : Cx p s m args c cc nL own ad D (tysW cs) A) {ref Cn : String} {T : u_T} {N ci index a : Nat} (hin : ∀ w ∈ u_ws Cn T N, w ∈ ALLW) (q0 : Nat) {fs : List Value} (he : w[q0]? = some (a, .inr (ci, fs))) (hc : vwCl[ci]? = some (Cn, T, N)) (k : Nat) (hk : k < N) (hlink : Cond.fieldLink own index ref (T k).2.1 (T k).2.2.1 ∈ ALLW) (href : (T k).1 = ref) {v : Value} (hv : fs[k]? = some v) (hdg : decode cc pc = .ok (.getfield index, 3)) (kk : VN p l e R s m args below meth c Q D A nL cells slots w (pc + 3) lv (v :: rest)) : VN p l e R s m args below meth c Q D A nL cells slots w pc lv (.ref a :: rest) := fun H locs ls hP hD hS hl =>
  va_get C.1 C.2.1 C.2.2.2.2.1 hin C.2.2.2.1 C.2.2.2.2.2.1 hP q0 he hc k hk (C.2.2.2.2.1 _ hlink) (fun _ h => href ▸ h) hv hdg (kk H locs ls hP hD hS hl)
theorem n_iast (C : Cx p s m args c cc nL own ad D (tysW cs) A) (q0 : Nat) {n a : Nat} {f : Nat → Int32} (ha : w[q0]? = some (a, .inl (cs 0, n, .inl f))) {i x : Int32} (j : Nat) (hi : i = nI j) (hj : j < n) (hn : n < 2 ^ 31) (hdg : decode cc pc = .ok (.iastore, 1)) (hb2 : w.set q0 (a, .inl (cs 0, n, .inl (upd f j x))) = w') (kk : VN p l e R s m args below meth c Q D A nL cells slots w' (pc + 1) lv (rest)) : VN p l e R s m args below meth c Q D A nL cells slots w pc lv (.int x :: .int i :: .ref a :: rest) := fun H locs ls hP hD hS hl => by
  subst hi
  refine va_iast C.1 C.2.1 C.2.2.2.2.2.1 hP hD hS q0 0 ha rfl (vp_in_nI hj hn) hdg (fun H1 locs1 hP1 hD1 hS1 => ?_)
  rw [nI_clamp (Nat.lt_trans hj hn), hb2] at hP1 hD1
  exact kk H1 locs1 ls hP1 hD1 hS1 hl
theorem n_newq_Sheet (C : Cx p s m args c cc nL own ad D (tysW cs) A) (hO : AOs ad s s.heap) {index : Nat} (hcl : Cond.classLink own index "WoolMarket$Sheet" ∈ ALLW) (hc : cells + 1 ≤ R.cells) (hs : slots + 4 ≤ R.slots) (hdg : decode cc pc = .ok (.anewarray index, 3)) (k : ∀ q, VN p l e R s m args below meth c Q D A nL (cells + 1) (slots + 4) (w ++ [(q, .inl (cs 4, 4, .inr (.inr (.inr (.inr (fun _ => none))))))]) (pc + 3) lv (.ref q :: rest)) : VN p l e R s m args below meth c Q D A nL cells slots w pc lv (.int 4 :: rest) := fun H locs ls hP hD hS hl => by
  refine va_newq (C := "WoolMarket$Sheet") (N' := 4) C.1 C.2.1 C.2.2.2.1 (C.2.2.2.2.1 _ hcl) hO.2.1 C.2.2.2.2.2.1 hP hD hS C.2.2.2.2.2.2.2 (by decide) rfl (by decide) hc hs hdg (fun q cA H1 hK1 hP1 hD1 hS1 => ?_)
  obtain rfl : cA = cs 4 := K_last C.2.2.2.2.2.1 rfl hK1
  exact k q H1 locs ls hP1 hD1 hS1 hl
theorem n_astq_Sheet (C : Cx p s m args c cc nL own ad D (tysW cs) A) (q0 qk : Nat) {a v : Nat} {vs : List Value} {f : Nat → Option Nat} (ha : w[q0]? = some (a, .inl (cs 4, 4, .inr (.inr (.inr (.inr f)))))) (hv : w[qk]? = some (v, .inr (1, vs))) {i : Int32} (j : Nat) (hi : i = nI j) (hj : j < 4) (hdg : decode cc pc = .ok (.aastore, 1)) (hb2 : w.set q0 (a, .inl (cs 4, 4, .inr (.inr (.inr (.inr (va_up f j (some v))))))) = w') (kk : VN p l e R s m args below meth c Q D A nL cells slots w' (pc + 1) lv (rest)) : VN p l e R s m args below meth c Q D A nL cells slots w pc lv (.ref v :: .int i :: .ref a :: rest) := fun H locs ls hP hD hS hl => by
  subst hi
  refine va_astq (r := (RX1, TX1, 3)) C.1 C.2.1 C.2.2.2.2.2.1 hP hD hS q0 4 qk 1 ha rfl hv rfl (vp_in_nI hj (by decide)) hdg (fun H1 locs1 hP1 hD1 hS1 => ?_)
  rw [nI_clamp (by omega), hb2] at hP1 hD1
  exact kk H1 locs1 ls hP1 hD1 hS1 hl
theorem n_newq_Shelf (C : Cx p s m args c cc nL own ad D (tysW cs) A) (hO : AOs ad s s.heap) {index : Nat} (hcl : Cond.classLink own index "WoolMarket$Shelf" ∈ ALLW) (hc : cells + 1 ≤ R.cells) (hs : slots + 4 ≤ R.slots) (hdg : decode cc pc = .ok (.anewarray index, 3)) (k : ∀ q, VN p l e R s m args below meth c Q D A nL (cells + 1) (slots + 4) (w ++ [(q, .inl (cs 5, 4, .inr (.inr (.inr (.inr (fun _ => none))))))]) (pc + 3) lv (.ref q :: rest)) : VN p l e R s m args below meth c Q D A nL cells slots w pc lv (.int 4 :: rest) := fun H locs ls hP hD hS hl => by
  refine va_newq (C := "WoolMarket$Shelf") (N' := 4) C.1 C.2.1 C.2.2.2.1 (C.2.2.2.2.1 _ hcl) hO.2.2.1 C.2.2.2.2.2.1 hP hD hS C.2.2.2.2.2.2.2 (by decide) rfl (by decide) hc hs hdg (fun q cA H1 hK1 hP1 hD1 hS1 => ?_)
  obtain rfl : cA = cs 5 := K_last C.2.2.2.2.2.1 rfl hK1
  exact k q H1 locs ls hP1 hD1 hS1 hl
theorem n_astq_Shelf (C : Cx p s m args c cc nL own ad D (tysW cs) A) (q0 qk : Nat) {a v : Nat} {vs : List Value} {f : Nat → Option Nat} (ha : w[q0]? = some (a, .inl (cs 5, 4, .inr (.inr (.inr (.inr f)))))) (hv : w[qk]? = some (v, .inr (2, vs))) {i : Int32} (j : Nat) (hi : i = nI j) (hj : j < 4) (hdg : decode cc pc = .ok (.aastore, 1)) (hb2 : w.set q0 (a, .inl (cs 5, 4, .inr (.inr (.inr (.inr (va_up f j (some v))))))) = w') (kk : VN p l e R s m args below meth c Q D A nL cells slots w' (pc + 1) lv (rest)) : VN p l e R s m args below meth c Q D A nL cells slots w pc lv (.ref v :: .int i :: .ref a :: rest) := fun H locs ls hP hD hS hl => by
  subst hi
  refine va_astq (r := (RX2, TX2, 3)) C.1 C.2.1 C.2.2.2.2.2.1 hP hD hS q0 5 qk 2 ha rfl hv rfl (vp_in_nI hj (by decide)) hdg (fun H1 locs1 hP1 hD1 hS1 => ?_)
  rw [nI_clamp (by omega), hb2] at hP1 hD1
  exact kk H1 locs1 ls hP1 hD1 hS1 hl
theorem n_mna_5 (C : Cx p s m args c cc nL own ad D (tysW cs) A) (hO : AOs ad s s.heap) {index : Nat} (hcl : Cond.classLink own index "[[I" ∈ ALLW) (hc : cells + (1 + 5) ≤ R.cells) (hs : slots + (5 + 40) ≤ R.slots) (hdg : decode cc pc = .ok (.multianewarray index 2, 4)) (k : ∀ (q : Nat) (r : Nat → Nat), VN p l e R s m args below meth c Q D A nL (cells + 1 + 5) (slots + 5 + 40) (w ++ [(q, .inl (cs 3, 5, .inr (.inr (.inr (.inr (fun i => if i < 5 then some (r i) else none)))))), (r 0, .inl (cs 0, 8, .inl (fun _ => 0))), (r 1, .inl (cs 0, 8, .inl (fun _ => 0))), (r 2, .inl (cs 0, 8, .inl (fun _ => 0))), (r 3, .inl (cs 0, 8, .inl (fun _ => 0))), (r 4, .inl (cs 0, 8, .inl (fun _ => 0)))]) (pc + 4) lv (.ref q :: rest)) : VN p l e R s m args below meth c Q D A nL cells slots w pc lv (.int 8 :: .int 5 :: rest) := fun H locs ls hP hD hS hl => by
  have hcy : s.vm.findClass (FieldType.array .int).toString = some (cs 0) := RA_find (C.2.2.2.2.2.1.2 0 _ rfl).2
  refine va_mna (X := w) (L := []) (f := fun _ => .inl (cs 0, 8, .inl (fun _ => 0))) (ty := .int) (z := (8, .inl (fun _ => 0))) (N' := 5) (K' := 8) C.1 C.2.1 C.2.2.2.1 (C.2.2.2.2.1 _ hcl) hO.1 (C.2.2.2.2.1 _ ac_int) hcy C.2.2.2.2.2.1 (by rw [show va_pl [] _ = [] from rfl, List.append_nil]; exact hP) (by rw [show va_pl [] _ = [] from rfl, List.append_nil]; exact hD) hS C.2.2.2.2.2.2.2 (by decide) (by decide) rfl rfl (by decide) (by decide) (by decide) rfl rfl hc hs (fun c => ?_) hdg (fun q r cA H1 hr1 hr2 hK1 hP1 hD1 hS1 => ?_)
  · show ({ cls := c, slots := Array.replicate 8 (.int 0), vm := .none } : Cell) = vp_cell c (8, .inl (fun _ => 0))
    rw [arrV_new]; rfl
  · obtain rfl : cA = cs 3 := K_last C.2.2.2.2.2.1 rfl hK1
    have e : ∀ i, i < 5 → vr_up (fun _ => (.inl (cs 0, 8, .inl (fun _ => 0)) : va_E)) ((List.range 5).map r) (.inl (cs 0, (8, .inl (fun _ => 0)))) (r i) = .inl (cs 0, 8, .inl (fun _ => 0)) := fun i hi => vr_up_in (List.mem_map.mpr ⟨i, List.mem_range.mpr hi, rfl⟩)
    have e2 : (w ++ [(q, .inl (cs 3, 5, .inr (.inr (.inr (.inr (fun i => if i < 5 then some (r i) else none))))))]) ++ va_pl ([] ++ (List.range 5).map r) (vr_up (fun _ => (.inl (cs 0, 8, .inl (fun _ => 0)) : va_E)) ((List.range 5).map r) (.inl (cs 0, (8, .inl (fun _ => 0))))) = w ++ [(q, .inl (cs 3, 5, .inr (.inr (.inr (.inr (fun i => if i < 5 then some (r i) else none)))))), (r 0, .inl (cs 0, 8, .inl (fun _ => 0))), (r 1, .inl (cs 0, 8, .inl (fun _ => 0))), (r 2, .inl (cs 0, 8, .inl (fun _ => 0))), (r 3, .inl (cs 0, 8, .inl (fun _ => 0))), (r 4, .inl (cs 0, 8, .inl (fun _ => 0)))] := by
      rw [List.append_assoc]
      congr 1
      show (q, _) :: [(r 0, vr_up (fun _ => (.inl (cs 0, 8, .inl (fun _ => 0)) : va_E)) ((List.range 5).map r) (.inl (cs 0, (8, .inl (fun _ => 0)))) (r 0)), (r 1, vr_up (fun _ => (.inl (cs 0, 8, .inl (fun _ => 0)) : va_E)) ((List.range 5).map r) (.inl (cs 0, (8, .inl (fun _ => 0)))) (r 1)), (r 2, vr_up (fun _ => (.inl (cs 0, 8, .inl (fun _ => 0)) : va_E)) ((List.range 5).map r) (.inl (cs 0, (8, .inl (fun _ => 0)))) (r 2)), (r 3, vr_up (fun _ => (.inl (cs 0, 8, .inl (fun _ => 0)) : va_E)) ((List.range 5).map r) (.inl (cs 0, (8, .inl (fun _ => 0)))) (r 3)), (r 4, vr_up (fun _ => (.inl (cs 0, 8, .inl (fun _ => 0)) : va_E)) ((List.range 5).map r) (.inl (cs 0, (8, .inl (fun _ => 0)))) (r 4))] = _
      rw [e 0 (by decide), e 1 (by decide), e 2 (by decide), e 3 (by decide), e 4 (by decide)]
    rw [e2] at hP1 hD1
    exact k q r H1 locs ls hP1 hD1 hS1 hl
theorem n_mna_10 (C : Cx p s m args c cc nL own ad D (tysW cs) A) (hO : AOs ad s s.heap) {index : Nat} (hcl : Cond.classLink own index "[[I" ∈ ALLW) (hc : cells + (1 + 10) ≤ R.cells) (hs : slots + (10 + 30) ≤ R.slots) (hdg : decode cc pc = .ok (.multianewarray index 2, 4)) (k : ∀ (q : Nat) (r : Nat → Nat), VN p l e R s m args below meth c Q D A nL (cells + 1 + 10) (slots + 10 + 30) (w ++ [(q, .inl (cs 3, 10, .inr (.inr (.inr (.inr (fun i => if i < 10 then some (r i) else none)))))), (r 0, .inl (cs 0, 3, .inl (fun _ => 0))), (r 1, .inl (cs 0, 3, .inl (fun _ => 0))), (r 2, .inl (cs 0, 3, .inl (fun _ => 0))), (r 3, .inl (cs 0, 3, .inl (fun _ => 0))), (r 4, .inl (cs 0, 3, .inl (fun _ => 0))), (r 5, .inl (cs 0, 3, .inl (fun _ => 0))), (r 6, .inl (cs 0, 3, .inl (fun _ => 0))), (r 7, .inl (cs 0, 3, .inl (fun _ => 0))), (r 8, .inl (cs 0, 3, .inl (fun _ => 0))), (r 9, .inl (cs 0, 3, .inl (fun _ => 0)))]) (pc + 4) lv (.ref q :: rest)) : VN p l e R s m args below meth c Q D A nL cells slots w pc lv (.int 3 :: .int 10 :: rest) := fun H locs ls hP hD hS hl => by
  have hcy : s.vm.findClass (FieldType.array .int).toString = some (cs 0) := RA_find (C.2.2.2.2.2.1.2 0 _ rfl).2
  refine va_mna (X := w) (L := []) (f := fun _ => .inl (cs 0, 3, .inl (fun _ => 0))) (ty := .int) (z := (3, .inl (fun _ => 0))) (N' := 10) (K' := 3) C.1 C.2.1 C.2.2.2.1 (C.2.2.2.2.1 _ hcl) hO.1 (C.2.2.2.2.1 _ ac_int) hcy C.2.2.2.2.2.1 (by rw [show va_pl [] _ = [] from rfl, List.append_nil]; exact hP) (by rw [show va_pl [] _ = [] from rfl, List.append_nil]; exact hD) hS C.2.2.2.2.2.2.2 (by decide) (by decide) rfl rfl (by decide) (by decide) (by decide) rfl rfl hc hs (fun c => ?_) hdg (fun q r cA H1 hr1 hr2 hK1 hP1 hD1 hS1 => ?_)
  · show ({ cls := c, slots := Array.replicate 3 (.int 0), vm := .none } : Cell) = vp_cell c (3, .inl (fun _ => 0))
    rw [arrV_new]; rfl
  · obtain rfl : cA = cs 3 := K_last C.2.2.2.2.2.1 rfl hK1
    have e : ∀ i, i < 10 → vr_up (fun _ => (.inl (cs 0, 3, .inl (fun _ => 0)) : va_E)) ((List.range 10).map r) (.inl (cs 0, (3, .inl (fun _ => 0)))) (r i) = .inl (cs 0, 3, .inl (fun _ => 0)) := fun i hi => vr_up_in (List.mem_map.mpr ⟨i, List.mem_range.mpr hi, rfl⟩)
    have e2 : (w ++ [(q, .inl (cs 3, 10, .inr (.inr (.inr (.inr (fun i => if i < 10 then some (r i) else none))))))]) ++ va_pl ([] ++ (List.range 10).map r) (vr_up (fun _ => (.inl (cs 0, 3, .inl (fun _ => 0)) : va_E)) ((List.range 10).map r) (.inl (cs 0, (3, .inl (fun _ => 0))))) = w ++ [(q, .inl (cs 3, 10, .inr (.inr (.inr (.inr (fun i => if i < 10 then some (r i) else none)))))), (r 0, .inl (cs 0, 3, .inl (fun _ => 0))), (r 1, .inl (cs 0, 3, .inl (fun _ => 0))), (r 2, .inl (cs 0, 3, .inl (fun _ => 0))), (r 3, .inl (cs 0, 3, .inl (fun _ => 0))), (r 4, .inl (cs 0, 3, .inl (fun _ => 0))), (r 5, .inl (cs 0, 3, .inl (fun _ => 0))), (r 6, .inl (cs 0, 3, .inl (fun _ => 0))), (r 7, .inl (cs 0, 3, .inl (fun _ => 0))), (r 8, .inl (cs 0, 3, .inl (fun _ => 0))), (r 9, .inl (cs 0, 3, .inl (fun _ => 0)))] := by
      rw [List.append_assoc]
      congr 1
      show (q, _) :: [(r 0, vr_up (fun _ => (.inl (cs 0, 3, .inl (fun _ => 0)) : va_E)) ((List.range 10).map r) (.inl (cs 0, (3, .inl (fun _ => 0)))) (r 0)), (r 1, vr_up (fun _ => (.inl (cs 0, 3, .inl (fun _ => 0)) : va_E)) ((List.range 10).map r) (.inl (cs 0, (3, .inl (fun _ => 0)))) (r 1)), (r 2, vr_up (fun _ => (.inl (cs 0, 3, .inl (fun _ => 0)) : va_E)) ((List.range 10).map r) (.inl (cs 0, (3, .inl (fun _ => 0)))) (r 2)), (r 3, vr_up (fun _ => (.inl (cs 0, 3, .inl (fun _ => 0)) : va_E)) ((List.range 10).map r) (.inl (cs 0, (3, .inl (fun _ => 0)))) (r 3)), (r 4, vr_up (fun _ => (.inl (cs 0, 3, .inl (fun _ => 0)) : va_E)) ((List.range 10).map r) (.inl (cs 0, (3, .inl (fun _ => 0)))) (r 4)), (r 5, vr_up (fun _ => (.inl (cs 0, 3, .inl (fun _ => 0)) : va_E)) ((List.range 10).map r) (.inl (cs 0, (3, .inl (fun _ => 0)))) (r 5)), (r 6, vr_up (fun _ => (.inl (cs 0, 3, .inl (fun _ => 0)) : va_E)) ((List.range 10).map r) (.inl (cs 0, (3, .inl (fun _ => 0)))) (r 6)), (r 7, vr_up (fun _ => (.inl (cs 0, 3, .inl (fun _ => 0)) : va_E)) ((List.range 10).map r) (.inl (cs 0, (3, .inl (fun _ => 0)))) (r 7)), (r 8, vr_up (fun _ => (.inl (cs 0, 3, .inl (fun _ => 0)) : va_E)) ((List.range 10).map r) (.inl (cs 0, (3, .inl (fun _ => 0)))) (r 8)), (r 9, vr_up (fun _ => (.inl (cs 0, 3, .inl (fun _ => 0)) : va_E)) ((List.range 10).map r) (.inl (cs 0, (3, .inl (fun _ => 0)))) (r 9))] = _
      rw [e 0 (by decide), e 1 (by decide), e 2 (by decide), e 3 (by decide), e 4 (by decide), e 5 (by decide), e 6 (by decide), e 7 (by decide), e 8 (by decide), e 9 (by decide)]
    rw [e2] at hP1 hD1
    exact k q r H1 locs ls hP1 hD1 hS1 hl
end VNR
