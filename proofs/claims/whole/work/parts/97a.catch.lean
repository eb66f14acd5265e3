/-! caught by the first row of a table: the search resolves its class (cold or warm), the walk goes on at the handler. Own walk of the machine's own words. -/
section MX
variable {e : Env} {S : State} {f : JFrame} {a : Addr} {vm1 : Vm}
theorem mx_find {meth : Method} {code : Code} {x : ExceptionTableEntry} {suf : List ExceptionTableEntry} {cT : ClassId} {cell : Cell} (hm : S.vm.method? f.method = some meth) (hc : meth.code = some code) (htab : code.exceptionTable.toList = x :: suf) (hx : covers x f.pc = true) (h0 : x.catchType ≠ 0)
    (hg : (Jvm.resolveClass f.method.cls x.catchType).Gives e.toSetting S.vm (.ok cT) vm1) (hz : vm1.classes.size ≤ S.vm.classes.size) (hcell : S.heap[a]? = some cell) (hobj : ∀ k, cell.vm ≠ .statics k) (hk : ∃ k, vm1.classes[cell.cls]? = some k) (hcl : ∃ k, vm1.classes[cT]? = some k) (hfit : vm1.assignable cell.cls cT = true)
    (Q : Handler → Pre) (E : CtlPost) (d : Bool) (acts : List Action) : wp (findHandler f a) Q E e d acts S ↔ Q (.found x.handlerPc) d acts (S.setVm vm1) := by
  rw [W.findHandler_eq hm hc, htab]
  obtain ⟨ha, ht⟩ := hg.op (op := VmOp.resolveClass f.method.cls x.catchType) rfl
  simp only [covers] at hx
  simp [findHandler.go, hx, h0, ha, ht, hz, hcell, hobj, hk, hcl, hfit, VmOp.dirties, VmOp.acts]
theorem mx_step {r : List Frame} {pc : Nat} (hf : ∀ (Q : Handler → Pre) (E : CtlPost) (d : Bool) (acts : List Action), wp (findHandler f a) Q E e d acts S ↔ Q (.found pc) d acts (S.setVm vm1)) : (stepThrowing e S a (.java f :: r)).1 = (S.setVm vm1).setFrames (.java { f with pc := pc, stack := [.ref a] } :: r) := by
  simp only [stepThrowing, searchFrame, vmDo]
  generalize hr : Sem.go _ e false [] S = res
  obtain ⟨as, rfl, -⟩ := Sem.eq_ok_of hr (a := Handler.found pc) (s' := S.setVm vm1) (acts' := []) (by simp [hf])
  rfl
end MX
section MXW
variable {p : Program} {l : Launch} {e : Env} {R : Room} {s : State} {m : MethodId} {args : Array Value} {below : List Frame} {meth : Method} {c : Code} {H : Heap} {locs : List Loc} {cells slots : Nat} {Q : State → Prop} {ls : Array Slot} {rest : List Value} {pc : Nat}
theorem mx_catch {own name : String} {E : String} {ce : Cell} {q : Addr} (hown : s.vm.findClass own = some m.cls) (x : ExceptionTableEntry) (suf : List ExceptionTableEntry) (htab : c.exceptionTable.toList = x :: suf) (hx : covers x pc = true) (h0 : x.catchType ≠ 0)
    (hlink : (Cond.classLink own x.catchType name).before args s = true) (hcast : (Cond.castable E name).before args s = true) (hcell : H[q]? = some ce) (hv : ce.vm = .none) (hcl : s.vm.findClass E = some ce.cls)
    (kk : W p l e R s m args below meth c H locs cells slots Q (F0 m x.handlerPc ls [.ref q])) : vx_W p l e R s m args below meth c H locs cells slots Q (F0 m pc ls rest) q := by
  intro T hT X
  have hpl : e.platform.magicAccessors = ({} : Platform).magicAccessors := by rw [X.admits.platform]
  obtain ⟨c3, c4, hc3, hc4, hasg⟩ := Cond.castable_spec hcast
  cases Option.some.inj (hc3.symm.trans hcl)
  obtain ⟨c5, hc5, hcl5⟩ := Cond.classLink_spec hown hlink e.platform hpl
  cases Option.some.inj (hc4.symm.trans hc5)
  obtain ⟨hgv, hwarm, -⟩ := State.classEntry (e := e) X.warmed hcl5
  have hsz : (T.vm.noted m.cls x.catchType (.cls c4)).classes.size ≤ T.vm.classes.size := by no_record
  generalize T.vm.noted m.cls x.catchType (.cls c4) = vm1 at hgv hwarm hsz
  obtain ⟨k3, hk3, -⟩ := Vm.findClass_spec hc3
  obtain ⟨k4, hk4, -⟩ := Vm.findClass_spec hc4
  obtain ⟨k31, hk31, -⟩ := hwarm.alike.2.2 _ _ hk3
  obtain ⟨k41, hk41, -⟩ := hwarm.alike.2.2 _ _ hk4
  have hf := mx_find (e := e) (S := (T.setTop (F0 m pc ls rest)).pushFrame (.throwing q)) (f := F0 m pc ls rest) (a := q) (vm1 := vm1) (x := x) (suf := suf) (cell := ce) X.method' X.code htab hx h0 hgv hsz (by show T.heap[q]? = _; rw [hT]; exact hcell) (fun k h => by rw [hv] at h; cases h) ⟨k31, hk31⟩ ⟨k41, hk41⟩ (by rw [hwarm.alike.assignable]; exact hasg)
  obtain ⟨t, a1, b1⟩ := kk (T.setVm vm1) hT (X.noted hwarm)
  refine ⟨t, ?_, b1⟩
  have hat : Jvm.At T (F0 m pc ls rest).method c below := X.here
  obtain ⟨hgo, hw⟩ := hat.throwing q
  refine Steps.head hgo hw ?_
  rw [stepThread_throwing (frames_entered hat.top _), mx_step hf]
  obtain ⟨g₀, hg⟩ := Option.isSome_iff_exists.mp hat.top
  obtain ⟨r, hr⟩ := State.topJava?_eq_some.mp hg
  rw [State.setTop_of_frames (s := T.setVm vm1) _ hr] at a1
  rw [hr, State.pushFrame, State.setTop_of_frames _ hr, State.setFrames_setFrames]
  show Steps p.tables e below (((T.setVm vm1).setFrames _).setFrames _) t
  rw [State.setFrames_setFrames]
  exact a1
end MXW
