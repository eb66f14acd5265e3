/-! new T[n][m]: the outer array first, then row by row: a row made, its reference written. Own walk of the machine's own words; no law of the rest of the library is named. -/
section MZ
/-- the outer array when i rows stand behind it -/
def mz_oc (c : ClassId) (N a i : Nat) : Cell := arrV c N (fun j => va_rf (if j < i then some (a + 1 + j) else none))
theorem mz_oc0 (c : ClassId) (N a : Nat) : ({ cls := c, slots := Array.replicate N .null, vm := .none } : Cell) = mz_oc c N a 0 := by
  rw [arrV_new]
  exact congrArg (arrV c N) (funext fun j => by rw [if_neg (Nat.not_lt_zero j)]; rfl)
theorem mz_ocS (c : ClassId) (N a i : Nat) : (mz_oc c N a i).setSlot i (.ref (a + 1 + i)) = mz_oc c N a (i + 1) := by
  unfold mz_oc
  rw [arrV_store]
  refine congrArg (arrV c N) (funext fun j => ?_)
  show (if j = i then _ else va_rf (if j < i then some (a + 1 + j) else none)) = _
  by_cases h : j = i
  · rw [if_pos h, if_pos (by omega), h]; rfl
  · rw [if_neg h]
    by_cases h2 : j < i
    · rw [if_pos h2, if_pos (by omega)]
    · rw [if_neg h2, if_neg (by omega)]
/-- the state with the outer array and i rows made -/
def mz_st (T : State) (c N : Nat) (row : Cell) : Nat → State
  | 0 => T.pushCell (mz_oc c N T.heap.size 0)
  | i + 1 => ((mz_st T c N row i).pushCell row).setCell T.heap.size (mz_oc c N T.heap.size (i + 1))
theorem mz_top (T : State) (f : JFrame) (c N : Nat) (row : Cell) : ∀ i, mz_st (T.setTop f) c N row i = (mz_st T c N row i).setTop f
  | 0 => rfl
  | i + 1 => by
    show ((mz_st (T.setTop f) c N row i).pushCell row).setCell T.heap.size _ = _
    rw [mz_top T f c N row i]
    rfl
theorem mz_vm (T : State) (c N : Nat) (row : Cell) : ∀ i, (mz_st T c N row i).vm = T.vm
  | 0 => rfl
  | i + 1 => mz_vm T c N row i
theorem mz_java (T : State) (c N : Nat) (row : Cell) : ∀ i, (mz_st T c N row i).topJava? = T.topJava?
  | 0 => rfl
  | i + 1 => mz_java T c N row i
theorem mz_size (T : State) (c N : Nat) (row : Cell) : ∀ i, (mz_st T c N row i).heap.size = T.heap.size + 1 + i
  | 0 => by show (T.heap.push _).size = _; rw [Array.size_push]
  | i + 1 => by
    show (((mz_st T c N row i).heap.push row).setIfInBounds _ _).size = _
    rw [Array.size_setIfInBounds, Array.size_push, mz_size T c N row i]
    omega
theorem mz_used (T : State) (c N : Nat) (row : Cell) : ∀ i, (mz_st T c N row i).slotsUsed = T.slotsUsed + N + i * row.slots.size
  | 0 => by show T.slotsUsed + (mz_oc c N T.heap.size 0).slots.size = _; rw [show (mz_oc c N T.heap.size 0).slots.size = N from arrV_size _ _ _]; omega
  | i + 1 => by
    show (mz_st T c N row i).slotsUsed + row.slots.size = _
    rw [mz_used T c N row i, Nat.succ_mul]
    omega
theorem mz_out (T : State) (c N : Nat) (row : Cell) : ∀ i, (mz_st T c N row i).heap[T.heap.size]? = some (mz_oc c N T.heap.size i)
  | 0 => by show (T.heap.push _)[T.heap.size]? = _; rw [Array.getElem?_push, if_pos rfl]
  | i + 1 => by
    have h := mz_size T c N row i
    show (((mz_st T c N row i).heap.push row).setIfInBounds T.heap.size _)[T.heap.size]? = _
    rw [Array.getElem?_setIfInBounds, if_pos rfl, if_pos (by rw [Array.size_push]; omega)]
theorem mz_old (T : State) (c N : Nat) (row : Cell) {q : Nat} (hq : q < T.heap.size) : ∀ i, (mz_st T c N row i).heap[q]? = T.heap[q]?
  | 0 => by show (T.heap.push _)[q]? = _; rw [Array.getElem?_push, if_neg (by omega)]
  | i + 1 => by
    have h := mz_size T c N row i
    show (((mz_st T c N row i).heap.push row).setIfInBounds T.heap.size _)[q]? = _
    rw [Array.getElem?_setIfInBounds, if_neg (by omega), Array.getElem?_push, if_neg (by omega)]
    exact mz_old T c N row hq i
theorem mz_row (T : State) (c N : Nat) (row : Cell) (j : Nat) : ∀ i, j < i → (mz_st T c N row i).heap[T.heap.size + 1 + j]? = some row
  | 0, hj => absurd hj (Nat.not_lt_zero j)
  | i + 1, hj => by
    have h := mz_size T c N row i
    show (((mz_st T c N row i).heap.push row).setIfInBounds T.heap.size _)[T.heap.size + 1 + j]? = _
    rw [Array.getElem?_setIfInBounds, if_neg (by omega), Array.getElem?_push]
    by_cases e : j = i
    · rw [if_pos (by omega)]
    · rw [if_neg (by omega)]
      exact mz_row T c N row j i (by omega)
section MZS
variable {p : Program} {l : Launch} {e : Env} {R : Room} {s : State} {m : MethodId} {args : Array Value} {below : List Frame} {meth : Method} {c : Code} {T : State} {locs : List Loc} {cells slots : Nat}
theorem mz_stand {cA N M : Nat} {row : Cell} (X : Stand p l e R s m args below meth c T locs cells slots) (hM : row.slots.size = M) : ∀ i, Stand p l e R s m args below meth c (mz_st T cA N row i) locs (cells + 1 + i) (slots + N + i * M)
  | 0 => by
    have h := X.pushed (mz_oc cA N T.heap.size 0)
    rw [show (mz_oc cA N T.heap.size 0).slots.size = N from arrV_size _ _ _] at h
    rw [Nat.zero_mul]
    exact h
  | i + 1 => by
    have h1 := (mz_stand (cA := cA) (N := N) X hM i).pushed row
    have hc : ((mz_st T cA N row i).pushCell row).heap[T.heap.size]? = some (mz_oc cA N T.heap.size i) := by
      show ((mz_st T cA N row i).heap.push row)[T.heap.size]? = _
      have hz := mz_size T cA N row i
      rw [Array.getElem?_push, if_neg (by omega)]
      exact mz_out T cA N row i
    have h2 := h1.stored hc i (.ref (T.heap.size + 1 + i))
    rw [mz_ocS, hM] at h2
    have h3 := h2.dropFresh (fun x hx => by
      rw [List.mem_singleton.mp hx]
      exact X.heapGrown)
    rw [show slots + N + (i + 1) * M = slots + N + i * M + M by rw [Nat.succ_mul]; omega]
    exact h3
end MZS
section MZW
variable {E : CtlPost} {e : Env} {d : Bool} {acts : List Action} {U : State}
/-- a row -/
theorem mz_make1 {cy comp : ClassId} {ky : Class} {ty : FieldType} {y : Int32} {Q : Addr → Pre} (hy : ¬ y < 0) (hk : U.vm.classes[cy]? = some ky) (hkind : ky.kind = .array comp ty) (hlimit : ¬ y.toNatClampNeg > e.platform.arrayLengthLimit) (hheap : ¬ y.toNatClampNeg * componentBytes ty > e.platform.maxHeapBytes)
    (hcells : U.heap.size < e.platform.maxCells) (hslots : U.slotsUsed + y.toNatClampNeg ≤ e.platform.maxSlots) (hq : ∀ acts', Q U.heap.size d acts' (U.pushCell (arrV cy y.toNatClampNeg (fun _ => defaultValue ty)))) : wp (multianewarray.make cy [y]) Q E e d acts U := by
  rw [multianewarray.make]
  simp only [wp_bind', W.ite, hy, if_false, wp_pure', W.theClass, hk, Option.some.injEq, exists_eq_left', hkind]
  refine W.newArray_of hk hkind hlimit hheap hcells hslots (fits_default ty) (fun acts' => ?_)
  have h := hq acts'
  rw [← arrV_new] at h
  exact h
/-- all of them -/
theorem mz_make2 {cA cy comp : ClassId} {kA ky : Class} {ty : FieldType} {x y : Int32} {Q : Addr → Pre} (hx : ¬ x < 0) (hy : ¬ y < 0) (hkA : U.vm.classes[cA]? = some kA) (hkindA : kA.kind = .array cy (.array ty)) (hky : U.vm.classes[cy]? = some ky) (hkind : ky.kind = .array comp ty)
    (hl1 : ¬ x.toNatClampNeg > e.platform.arrayLengthLimit) (hh1 : ¬ x.toNatClampNeg * 4 > e.platform.maxHeapBytes) (hl2 : ¬ y.toNatClampNeg > e.platform.arrayLengthLimit) (hh2 : ¬ y.toNatClampNeg * componentBytes ty > e.platform.maxHeapBytes)
    (hcells : U.heap.size + (1 + x.toNatClampNeg) ≤ e.platform.maxCells) (hslots : U.slotsUsed + (x.toNatClampNeg + x.toNatClampNeg * y.toNatClampNeg) ≤ e.platform.maxSlots)
    (hq : ∀ d' acts', Q U.heap.size d' acts' (mz_st U cA x.toNatClampNeg (arrV cy y.toNatClampNeg (fun _ => defaultValue ty)) x.toNatClampNeg)) : wp (multianewarray.make cA [x, y]) Q E e d acts U := by
  generalize hN : x.toNatClampNeg = N at *
  generalize hM : y.toNatClampNeg = M at *
  rw [multianewarray.make]
  simp only [wp_bind', W.ite, hx, if_false, wp_pure', W.theClass, hkA, Option.some.injEq, exists_eq_left', hkindA]
  rw [hN]
  refine W.newArray_of hkA hkindA hl1 hh1 (by omega) (by omega) rfl (fun acts1 => ?_)
  have key : wp (do
      forIn [:N] PUnit.unit fun i _ => do
        let r ← multianewarray.make cy [y]
        writeLoc U.heap.size i (Value.ref r)
        Pure.pure (ForInStep.yield PUnit.unit)
      (Pure.pure U.heap.size : Sem Addr)) Q E e d acts1 (U.pushCell { cls := cA, slots := Array.replicate N Value.null }) := by
    simp only [wp_bind', Std.Legacy.Range.forIn_eq_forIn_range', Std.Legacy.Range.size, Nat.sub_zero, Nat.add_sub_cancel, Nat.div_one]
    refine wp_forIn_inv (fun rest V => ∃ i, i ≤ N ∧ rest = List.range' i (N - i) ∧ V = mz_st U cA N (arrV cy M (fun _ => defaultValue ty)) i) _ _ ⟨0, Nat.zero_le _, rfl, congrArg U.pushCell (mz_oc0 cA N U.heap.size)⟩ (fun j rest V d1 acts2 Q1 hI hQ1 => ?_) (fun V d1 acts2 hI => ?_)
    · obtain ⟨i, hi, hr, rfl⟩ := hI
      have hlt : i < N := by
        rcases Nat.lt_or_ge i N with h | h
        · exact h
        · rw [Nat.sub_eq_zero_of_le h] at hr; cases hr
      rw [show N - i = (N - (i + 1)) + 1 by omega, List.range'_succ] at hr
      obtain ⟨rfl, rfl⟩ := List.cons.inj hr
      have hz := mz_size U cA N (arrV cy M (fun _ => defaultValue ty)) j
      have hu := mz_used U cA N (arrV cy M (fun _ => defaultValue ty)) j
      have hv := mz_vm U cA N (arrV cy M (fun _ => defaultValue ty)) j
      have ho := mz_out U cA N (arrV cy M (fun _ => defaultValue ty)) j
      rw [arrV_size] at hu
      have hmul : (j + 1) * M ≤ N * M := Nat.mul_le_mul_right M hlt
      rw [Nat.succ_mul] at hmul
      simp only [wp_bind']
      refine mz_make1 hy (by rw [hv]; exact hky) hkind (by rw [hM]; exact hl2) (by rw [hM]; exact hh2) (by omega) (by rw [hM]; omega) (fun acts3 => ?_)
      rw [hM]
      show wp (writeLoc U.heap.size j (Value.ref (mz_st U cA N (arrV cy M (fun _ => defaultValue ty)) j).heap.size)) (fun _ => wp (Pure.pure (ForInStep.yield PUnit.unit)) Q1 E e) E e d1 acts3 _
      simp only [W.writeLoc, wp_pure']
      rw [hz]
      refine ⟨mz_oc cA N U.heap.size j, ?_, ?_, ?_, ?_, ?_⟩
      · show ((mz_st U cA N (arrV cy M (fun _ => defaultValue ty)) j).heap.push _)[U.heap.size]? = _
        rw [Array.getElem?_push, if_neg (by omega)]
        exact ho
      · exact fun h => by cases h
      · show j < (arrV cA N _).slots.size
        rw [arrV_size]
        exact hlt
      · have hc : ((mz_st U cA N (arrV cy M (fun _ => defaultValue ty)) j).pushCell (arrV cy M (fun _ => defaultValue ty))).vm.classes[cA]? = some kA := by
          show (mz_st U cA N (arrV cy M (fun _ => defaultValue ty)) j).vm.classes[cA]? = some kA
          rw [hv]
          exact hkA
        show State.fitsSlot _ cA .none j _ = true
        simp only [State.fitsSlot, State.slotType?, hc, Option.bind_eq_bind, Option.bind_some, hkindA]
        rfl
      · rw [mz_ocS]
        exact hQ1 _ _ _ ⟨j + 1, hlt, rfl, rfl⟩
    · obtain ⟨i, hi, hr, rfl⟩ := hI
      have e1 : N - i = 0 := by
        have := congrArg List.length hr
        rw [List.length_range'] at this
        exact this.symm
      rw [show i = N by omega]
      exact hq _ _
  split
  · simp only [List.find?, hy, decide_false]
    exact key
  · exact key
/-- the instruction's own body -/
theorem mz_sem {T : State} {f : JFrame} {vm1 : Vm} {index : Nat} {cA cy comp : ClassId} {kA ky : Class} {ty : FieldType} {x y : Int32} {rest : List Value} {Q : Unit → Pre} (hs : T.topJava?.isSome) (hg : (Jvm.resolveClass f.method.cls index).Gives e.toSetting T.vm (.ok cA) vm1) (hz : vm1.classes.size ≤ T.vm.classes.size) (hst : f.stack = .int y :: .int x :: rest)
    (hx : ¬ x < 0) (hy : ¬ y < 0) (hkA : vm1.classes[cA]? = some kA) (hkindA : kA.kind = .array cy (.array ty)) (hky : vm1.classes[cy]? = some ky) (hkind : ky.kind = .array comp ty)
    (hl1 : ¬ x.toNatClampNeg > e.platform.arrayLengthLimit) (hh1 : ¬ x.toNatClampNeg * 4 > e.platform.maxHeapBytes) (hl2 : ¬ y.toNatClampNeg > e.platform.arrayLengthLimit) (hh2 : ¬ y.toNatClampNeg * componentBytes ty > e.platform.maxHeapBytes)
    (hcells : T.heap.size + (1 + x.toNatClampNeg) ≤ e.platform.maxCells) (hslots : T.slotsUsed + (x.toNatClampNeg + x.toNatClampNeg * y.toNatClampNeg) ≤ e.platform.maxSlots)
    (hq : ∀ d' acts', Q () d' acts' ((mz_st (T.setVm vm1) cA x.toNatClampNeg (arrV cy y.toNatClampNeg (fun _ => defaultValue ty)) x.toNatClampNeg).setTop { f with stack := .ref T.heap.size :: rest })) : wp (multianewarray.sem index 2) Q E e d acts (T.setTop f) := by
  unfold multianewarray.sem
  simp only [wp_bind']
  refine (W.resolveClassAt_links (t := T.setTop f) (State.method?_setTop f hs) hg hz).mpr ?_
  rw [State.setVm_setTop, wp_bind']
  refine (popN_top (s := T.setVm vm1) (f := f) hs (args := [.int x, .int y]) (rest := rest) hst).mpr ?_
  simp only [List.mapM_cons, List.mapM_nil, wp_bind', wp_pure']
  refine mz_make2 (U := (T.setVm vm1).setTop { f with stack := rest }) hx hy hkA hkindA hky hkind hl1 hh1 hl2 hh2 hcells hslots (fun d1 acts1 => ?_)
  show wp (mark "op.multianewarray" >>= fun _ => pushRef T.heap.size) Q E e d1 acts1 _
  rw [wp_bind']
  show wp (pushRef T.heap.size) Q E e d1 acts1 _
  rw [mz_top]
  have ht : (mz_st (T.setVm vm1) cA x.toNatClampNeg (arrV cy y.toNatClampNeg (fun _ => defaultValue ty)) x.toNatClampNeg).topJava?.isSome := by
    rw [mz_java]
    exact hs
  simp only [W.pushRef, State.topJava?_setTop' _ ht, Option.some.injEq, exists_eq_left', State.setTop_setTop]
  exact hq _ _
end MZW
section MZG
variable {p : Program} {l : Launch} {e : Env} {R : Room} {s : State} {m : MethodId} {args : Array Value} {below : List Frame} {meth : Method} {c : Code} {T : State} {locs : List Loc} {cells slots : Nat}
theorem mz_over {t : FieldType} {V : State} (h : aO_2 t V) : ∃ (cy cA : ClassId) (kA : Class), V.vm.findClass (FieldType.array t).toString = some cy ∧ V.vm.findClass ("[" ++ (FieldType.array t).toString) = some cA ∧ V.vm.classes[cA]? = some kA ∧ kA.kind = .array cy (.array t) := by
  have h := h #[]
  unfold Cond.before Cond.holds at h
  simp only [Cond.value] at h
  cases hc : V.vm.findClass (FieldType.array t).toString with
  | none => rw [hc] at h; simp at h
  | some cy =>
    rw [hc] at h
    simp only [Option.bind_some] at h
    have h : ((V.vm.classes.findIdx? fun (x : Class) => match x.kind with | .array component _ => component == cy | _ => false).bind (fun c => (V.vm.classes[c]?).map fun (k : Class) => match k.kind with | .array _ ty => decide (ty = FieldType.array t) && decide (V.vm.findClass ("[" ++ (FieldType.array t).toString) = some c) | _ => false) == some true) = true := h
    cases hx : (V.vm.classes.findIdx? fun (x : Class) => match x.kind with | .array component _ => component == cy | _ => false) with
    | none => rw [hx] at h; simp at h
    | some cA =>
      obtain ⟨hlt, hp, -⟩ := Array.findIdx?_eq_some_iff_getElem.mp hx
      rw [hx] at h
      simp only [Option.bind_some, Array.getElem?_eq_getElem hlt, Option.map_some] at h
      refine ⟨cy, cA, V.vm.classes[cA], rfl, ?_, Array.getElem?_eq_getElem hlt, ?_⟩
      all_goals
        generalize V.vm.classes[cA] = kA at h hp
        cases hk : kA.kind <;> rw [hk] at h hp <;> simp at h hp
        first
        | exact h.2
        | rw [h.1, hp]
/-- the law: new T[n][m], both lengths not negative -/
theorem mz_go {own : String} {index : Nat} {ty : FieldType} (X : Stand p l e R s m args below meth c T locs cells slots) (hexec : p.tables.exec = Jvm.exec) (hown : s.vm.findClass own = some m.cls) (hclink : (Cond.classLink own index ("[" ++ (FieldType.array ty).toString)).before args s = true) (hover : aO_2 ty s) (harr : (Cond.arrayClass ty).before args s = true) (hname : (FieldType.array ty).toString = "[" ++ ty.toString)
    {g : JFrame} (hg : g.method = m) (hdg : decode c.code g.pc = .ok (.multianewarray index 2, 4)) {x y : Int32} {rest : List Value} (hst : g.stack = .int y :: .int x :: rest) (hx : ¬ x < 0) (hy : ¬ y < 0) (hb1 : x.toNatClampNeg * 4 ≤ 536870912) (hb2 : y.toNatClampNeg * componentBytes ty ≤ 536870912) (hb3 : y.toNatClampNeg ≤ 536870912)
    (hcells : cells + (1 + x.toNatClampNeg) ≤ R.cells) (hslots : slots + (x.toNatClampNeg + x.toNatClampNeg * y.toNatClampNeg) ≤ R.slots) :
    ∃ (vm1 : Vm) (cA cy : ClassId), s.vm.findClass ("[" ++ (FieldType.array ty).toString) = some cA ∧ s.vm.findClass (FieldType.array ty).toString = some cy ∧
      Stand p l e R s m args below meth c (mz_st (T.setVm vm1) cA x.toNatClampNeg (arrV cy y.toNatClampNeg (fun _ => defaultValue ty)) x.toNatClampNeg) locs (cells + 1 + x.toNatClampNeg) (slots + x.toNatClampNeg + x.toNatClampNeg * y.toNatClampNeg) ∧
      ∀ target, Steps p.tables e below ((mz_st (T.setVm vm1) cA x.toNatClampNeg (arrV cy y.toNatClampNeg (fun _ => defaultValue ty)) x.toNatClampNeg).setTop { g with pc := g.pc + 4, stack := .ref T.heap.size :: rest }) target → Steps p.tables e below (T.setTop g) target := by
  subst hg
  have hpl : e.platform.magicAccessors = ({} : Platform).magicAccessors := by rw [X.admits.platform]
  obtain ⟨cy, cA, kA, fC, fA, hkA, hkindA⟩ := mz_over hover
  obtain ⟨cy2, ky, comp, fC2, hky, hkind⟩ := Cond.arrayClass_spec harr
  have ec : cy2 = cy := Option.some.inj (fC2.symm.trans (by rw [← hname]; exact fC))
  subst ec
  obtain ⟨cA2, fA2, hcl⟩ := Cond.classLink_spec hown hclink e.platform hpl
  have ea : cA2 = cA := Option.some.inj (fA2.symm.trans fA)
  subst ea
  obtain ⟨hgv, hwarm, -⟩ := State.classEntry (e := e) X.warmed hcl
  have hsz : (T.vm.noted g.method.cls index (.cls cA2)).classes.size ≤ T.vm.classes.size := by no_record
  generalize T.vm.noted g.method.cls index (.cls cA2) = vm1 at hgv hwarm hsz
  obtain ⟨kA1, hkA1, heA⟩ := hwarm.alike.2.2 _ _ hkA
  obtain ⟨ky1, hky1, hey⟩ := hwarm.alike.2.2 _ _ hky
  obtain ⟨hr1, hr2⟩ := X.roomAbove hcells hslots
  refine ⟨vm1, cA2, cy2, fA, fC, mz_stand (X.noted hwarm) (arrV_size _ _ _) _, fun target hrest => ?_⟩
  refine Steps.instr (c := c) X.here ?_
  rw [hdg, hexec]
  refine mz_sem X.here.top hgv hsz hst hx hy hkA1 (by rw [heA]; exact hkindA) hky1 (by rw [hey]; exact hkind) (by rw [Launch.admits_arrayLengthLimit X.admits]; omega) (by rw [Launch.admits_maxHeapBytes X.admits]; omega) (by rw [Launch.admits_arrayLengthLimit X.admits]; omega) (by rw [Launch.admits_maxHeapBytes X.admits]; omega) hr1 hr2 (fun d1 acts1 acts2 => ?_)
  rw [afterInstr_ok]
  exact hrest
end MZG
end MZ
