/-! GY: arrays, constructors called -/
theorem aO_2.moved {t : FieldType} {u U : State} (hvm : u.vm.Alike U.vm) (h : aO_2 t u) : aO_2 t U := by
  intro A
  have h := h A
  unfold Cond.before Cond.holds at h ⊢
  simp only [Cond.value] at h ⊢
  rw [hvm.findClass]
  cases hc : u.vm.findClass (FieldType.array t).toString with
  | none => rw [hc] at h; simp at h
  | some comp =>
    rw [hc] at h
    simp only [Option.bind_some] at h ⊢
    have hi := (va_idx_bare U.vm comp).symm.trans ((show _ = _ by rw [hvm.bare_eq]) |>.trans (va_idx_bare u.vm comp))
    have h : ((u.vm.classes.findIdx? fun (x : Class) => match x.kind with | .array component _ => component == comp | _ => false).bind (fun c => (u.vm.classes[c]?).map fun (k : Class) => match k.kind with | .array _ ty => decide (ty = FieldType.array t) && decide (u.vm.findClass ("[" ++ (FieldType.array t).toString) = some c) | _ => false) == some true) = true := h
    cases hx : (u.vm.classes.findIdx? fun (x : Class) => match x.kind with | .array component _ => component == comp | _ => false) with
    | none => rw [hx] at h; simp at h
    | some c =>
      have hU : (U.vm.classes.findIdx? fun (x : Class) => match x.kind with | .array component _ => component == comp | _ => false) = some c := hi.trans hx
      rw [hx] at h
      show ((U.vm.classes.findIdx? fun (x : Class) => match x.kind with | .array component _ => component == comp | _ => false).bind (fun c => (U.vm.classes[c]?).map fun (k : Class) => match k.kind with | .array _ ty => decide (ty = FieldType.array t) && decide (U.vm.findClass ("[" ++ (FieldType.array t).toString) = some c) | _ => false) == some true) = true
      rw [hU]
      simp only [Option.bind_some] at h ⊢
      cases hk : u.vm.classes[c]? with
      | none => rw [hk] at h; simp at h
      | some k =>
        obtain ⟨k', hk', he⟩ := hvm.2.2 _ _ hk
        rw [hk] at h
        rw [hk']
        have hkk : k'.kind = k.kind := by rw [he]
        simp only [Option.map_some, hkk, hvm.findClass] at h ⊢
        exact h
def nestI : List Cond := [.methodLinkNest RX11 9 yX8_init RX11, .methodLinkNest RX11 18 yX9_init RX11, .methodLinkNest RX4 11 yX3_init RX11, .methodLinkNest RX2 25 yX3_init RX11, .methodLinkNest RX11 50 yX7_init RX11, .methodLinkNest RX11 57 yX10_init RX11, .methodLinkNest RX11 64 yX1_init RX11, .methodLinkNest RX11 71 yX0_init RX11, .methodLinkNest RX6 11 yX10_init RX11]
def CxI (U : State) : Prop := (∀ w ∈ nestI, va_Nw w U) ∧ va_AO RX3 U ∧ va_AO RX7 U ∧ aO_2 .int U
theorem CxI.warm {s U : State} (hW : s.WarmedH U.vm) (h : CxI s) : CxI U := by
  refine ⟨fun w hw => ?_, va_AO.moved hW.alike h.2.1, va_AO.moved hW.alike h.2.2.1, aO_2.moved hW.alike h.2.2.2⟩
  have h1 := h.1 w hw
  simp only [nestI, List.mem_cons, List.not_mem_nil, or_false] at hw
  rcases hw with rfl | rfl | rfl | rfl | rfl | rfl | rfl | rfl | rfl <;> exact va_Nw.warmM hW h1
theorem CxI.same {u U : State} (hv : U.vm = u.vm) (h : CxI u) : CxI U := by
  have ha : u.vm.Alike U.vm := by rw [hv]; exact Vm.Alike.refl u.vm
  refine ⟨fun w hw => ?_, va_AO.moved ha h.2.1, va_AO.moved ha h.2.2.1, aO_2.moved ha h.2.2.2⟩
  have h1 := h.1 w hw
  simp only [nestI, List.mem_cons, List.not_mem_nil, or_false] at hw
  rcases hw with rfl | rfl | rfl | rfl | rfl | rfl | rfl | rfl | rfl <;> exact va_tabs rfl hv.symm h1
def rmY (d mc ms : Nat) : Room := { frames := d, cells := mc, slots := ms, locals := 40 * d }
def PY (D : va_G) (cA ad : Nat → Nat) (as : List Value) (σ : AS) (n : Nat) : Array Value → State → Prop := va_Pc (as.map (cv ad)) (fun U => va_P D cls (wsN ad cA σ n) U.heap ∧ U.heap.size = ad n ∧ Cx D cA ad U U.heap ∧ CxI U)
theorem PY_blind {D : va_G} {cA ad : Nat → Nat} {σ : AS} {as : List Value} {n : Nat} : FrameBlind (PY D cA ad as σ n) := fun a U g mk q => ⟨q.1, q.2.1, q.2.2.1, Cx.same (u := U) rfl q.2.2.2.1, CxI.same (u := U) rfl q.2.2.2.2⟩
def QY (D : va_G) (cA ad : Nat → Nat) (n : Nat) (K : Option Value → AS → Prop) : Array Value → State → Outcome → State → Prop := fun _ st oc t => (∃ (r : Option Value) (σ' : AS), oc = .returned (r.map (cv ad)) ∧ K r σ' ∧ va_P D cls (wsN ad cA σ' n) t.heap ∧ t.heap.size = ad n) ∧ va_F (oA ad) st t
/-- a method that makes the cells n .. n1 - 1: mc cells, ms slots -/
def CallY (l : Launch) (D : va_G) (cA ad : Nat → Nat) (d mc ms : Nat) (M : Mt) (as : List Value) (n n1 : Nat) (σ : AS) (K : Option Value → AS → Prop) : Prop := Met l M.1 (wsM M) (rmY d mc ms) (PY D cA ad as σ n) (QY D cA ad n1 K) mc ms (oA ad)
theorem cally_gy {l : Launch} {D : va_G} {cA ad : Nat → Nat} {d mc ms n n1 : Nat} {M : Mt} {as : List Value} {σ : AS} {K : Option Value → AS → Prop} (hy : plainName M.1.cls = true) (hn : (lvX as).length ≤ M.2.2.1)
    (k : ∀ (p : Program) (e : Env) (s : State) (m : MethodId) (args : Array Value) (below : List Frame) (meth : Method) (c : Code), BX p s m args c D cA ad M.1.cls M.2.1 M.2.2.1 → CxI s → meth.name = M.1.name → meth.locks = false → meth.sig.returnType = M.2.2.2 → GY p l e (rmY d mc ms) s m args below meth c (MQ below (QY D cA ad n1 K) args s mc ms (oA ad)) D cA ad M.2.2.1 0 0 n 0 (lvE M.2.2.1 as) [] σ) : CallY l D cA ad d mc ms M as n n1 σ K := by
  refine Met.ofW (cc := M.2.1) (maxL := M.2.2.1) (ret := M.2.2.2) hy rfl ?_
  intro p e s m args below meth c s₁ B hml hv
  obtain ⟨rfl, hP, hsz, hC, hI⟩ := hv
  rw [lg_entry_eq]
  have hl := lv_entry (as.map (cv ad)) (n := M.2.2.1) (by rw [lvX_len]; exact hn)
  have hts := atoms_spec (ws := wsM M) B.pre
  refine k p e s m _ below meth c ⟨B.exec, B.bytes, hml, findClass_of_methodNamed B.named, fun w hw => hts w (List.mem_cons_of_mem _ hw), hC⟩ hI (name_of_methodNamed B.named B.method).1 B.notSynchronized B.returns s.heap [] _ hP hsz va_S.rf (lv_less hl ?_)
  rintro ⟨i, w⟩ hq
  obtain ⟨v, h1, h2, h3⟩ := lvL_mem.mp hq
  dsimp only at h1 h3
  subst h3
  unfold lvE at h1
  by_cases hi : i < (lvX as).length
  · rw [List.getElem?_append_left hi] at h1
    have := lvX_args (ad := ad) as 0 i v h1 h2
    rwa [Nat.zero_add] at this
  · rw [List.getElem?_append_right (Nat.not_lt.mp hi), List.getElem?_replicate] at h1
    split at h1
    · exact absurd (Option.some.inj h1).symm h2
    · cases h1
section GYS
variable {p : Program} {l : Launch} {e : Env} {R : Room} {s : State} {m : MethodId} {args : Array Value} {below : List Frame} {meth : Method} {c : Code} {Q : State → Prop} {D : va_G} {cA ad : Nat → Nat} {nL cells slots n pc : Nat} {lv st : List Value} {σ : AS} {own : String} {cc : ByteArray}
theorem gy_vret {n1 mc ms : Nat} {K : Option Value → AS → Prop} (hB : BX p s m args c D cA ad own cc nL) (hlocks : meth.locks = false) (hr : meth.sig.returnType = none) (hd : decode cc pc = .ok (.return_, 1)) (kk : K none σ) : GY p l e R s m args below meth c (MQ below (QY D cA ad n K) args s cells slots (oA ad)) D cA ad nL cells slots n pc lv [] σ := by
  intro H locs ls hP hsz hS hl
  exact W.vret hB.1 hB.2.1 hr (fun t ht hW => ⟨⟨none, σ, rfl, kk, by rw [ht]; exact hP, by rw [ht]; exact hsz⟩, hS.F ht⟩) hS.2.2 hd
theorem gy_iret {x : Int32} {ty : FieldType} {K : Option Value → AS → Prop} (hB : BX p s m args c D cA ad own cc nL) (hlocks : meth.locks = false) (hr : meth.sig.returnType = some ty) (hn : narrow ty (.int x) = .int x) (hd : decode cc pc = .ok (.ireturn, 1)) (kk : K (some (.int x)) σ) : GY p l e R s m args below meth c (MQ below (QY D cA ad n K) args s cells slots (oA ad)) D cA ad nL cells slots n pc lv [.int x] σ := by
  intro H locs ls hP hsz hS hl
  exact W.zret hB.1 hB.2.1 hr hn (fun t ht hW => ⟨⟨some (.int x), σ, rfl, kk, by rw [ht]; exact hP, by rw [ht]; exact hsz⟩, hS.F ht⟩) hS.2.2 hd
theorem gy_obj {index k : Nat} (hB : BX p s m args c D cA ad own cc nL) (hf : 1 ≤ R.frames ∧ 40 ≤ R.locals) (h8 : (st.map fun v => v.category).sum ≤ 8) (hw : Cond.methodLink own index Lib.objectInit ∈ tb) (hi : Cond.instanceMethod Lib.objectInit ∈ tb) (hcd : Cond.code Lib.objectInit ⟨#[0xb1]⟩ 1 none ∈ tb) (hd : decode cc pc = .ok (.invokespecial index, 3)) (kk : GY p l e R s m args below meth c Q D cA ad nL cells slots n (pc + 3) lv st σ) : GY p l e R s m args below meth c Q D cA ad nL cells slots n pc lv (.ref k :: st) σ := by
  intro H locs ls hP hsz hS hl
  obtain ⟨hx, hb, hml, hown, hts, hC⟩ := hB
  refine W.objInit hx hb hown (hts _ hw) (hts _ hi) (hts _ hcd) rfl (hl.1.trans hml.symm) rfl hd hf.1 ?_ (kk H locs ls hP hsz hS hl)
  have h9 : ((st.map (cv ad)).map fun v => v.category).sum ≤ 8 := by rw [cv_cats]; exact h8
  show 2 * 0 + ((st.map (cv ad)).map fun v => v.category).sum + 12 ≤ R.locals
  omega
theorem gy_newarr {atype : ArrayType} {ty : FieldType} {N i : Nat} {z : Nat × Nat} {a0 : vp_A} {x : Int32} (hB : BX p s m args c D cA ad own cc nL) (hA : AdS ad) (hn : n < nC) (hty : newarray.typeOf atype = ty) (harr : Cond.arrayClass ty ∈ tb) (hs : sh[n]? = some z) (hcl : cellA ad cA σ n z = .inl (cA i, a0)) (ha : vp_cell (cA i) a0 = arrV (cA i) N (fun _ => defaultValue ty)) (hRA : s.vm.findClass ("[" ++ ty.toString) = some (cA i)) (hx0 : ¬ x < 0) (hxN : x.toNatClampNeg = N) (hbytes : N * componentBytes ty ≤ 536870912) (hcells : cells + 1 ≤ R.cells) (hslots : slots + N ≤ R.slots) (hd : decode cc pc = .ok (.newarray atype, 2)) (kk : GY p l e R s m args below meth c Q D cA ad nL (cells + 1) (slots + N) (n + 1) (pc + 2) lv (.ref n :: st) σ) : GY p l e R s m args below meth c Q D cA ad nL cells slots n pc lv (.int x :: st) σ := by
  intro H locs ls hP hsz hS hl
  obtain ⟨hx, hb, hml, hown, hts, hC⟩ := hB
  subst hty
  refine va_newaK hx hb (hts _ harr) rfl hd rfl hx0 hxN hbytes hcells hslots hsz fun H1 cA' e1 z1 o1 hAr hNm => ?_
  have hcc : cA' = cA i := Option.some.inj (hNm.symm.trans hRA)
  subst hcc
  obtain ⟨g1, g2, g3⟩ := gy_grow (s := s) (H1 := H1) hA hn hs hP hsz hS (by rw [hcl]; show H1[ad n]? = some (vp_cell _ _); rw [ha]; exact e1) z1 o1
  exact kk H1 locs ls g1 g2 g3 hl
theorem gy_newI {N : Nat} {x : Int32} (hB : BX p s m args c D cA ad own cc nL) (hA : AdS ad) (hn : n < nC) (hs : sh[n]? = some (1, N)) (hZ : Zr σ n) (hx0 : ¬ x < 0) (hxN : x.toNatClampNeg = N) (hN : N ≤ 10000) (hcells : cells + 1 ≤ R.cells) (hslots : slots + N ≤ R.slots) (hd : decode cc pc = .ok (.newarray .int, 2)) (kk : GY p l e R s m args below meth c Q D cA ad nL (cells + 1) (slots + N) (n + 1) (pc + 2) lv (.ref n :: st) σ) : GY p l e R s m args below meth c Q D cA ad nL cells slots n pc lv (.int x :: st) σ :=
  gy_newarr (i := 0) (ty := .int) (a0 := (N, .inl (σ.1 n))) hB hA hn rfl (tb_t 55 (by decide +kernel) (by decide +kernel)) hs rfl (by rw [(hZ n (Nat.le_refl n)).1]; rfl) ((hB.2.2.2.2.2.1.2 0 _ rfl).2) hx0 hxN (by show N * 4 ≤ _; omega) hcells hslots hd kk
theorem gy_newB {N : Nat} {x : Int32} (hB : BX p s m args c D cA ad own cc nL) (hA : AdS ad) (hn : n < nC) (hs : sh[n]? = some (2, N)) (hZ : Zr σ n) (hx0 : ¬ x < 0) (hxN : x.toNatClampNeg = N) (hN : N ≤ 10000) (hcells : cells + 1 ≤ R.cells) (hslots : slots + N ≤ R.slots) (hd : decode cc pc = .ok (.newarray .byte, 2)) (kk : GY p l e R s m args below meth c Q D cA ad nL (cells + 1) (slots + N) (n + 1) (pc + 2) lv (.ref n :: st) σ) : GY p l e R s m args below meth c Q D cA ad nL cells slots n pc lv (.int x :: st) σ :=
  gy_newarr (i := 1) (ty := .byte) (a0 := (N, .inl (σ.1 n))) hB hA hn rfl (tb_t 115 (by decide +kernel) (by decide +kernel)) hs rfl (by rw [(hZ n (Nat.le_refl n)).1]; rfl) ((hB.2.2.2.2.2.1.2 1 _ rfl).2) hx0 hxN (by show N * 1 ≤ _; omega) hcells hslots hd kk
theorem gy_newL {N : Nat} {x : Int32} (hB : BX p s m args c D cA ad own cc nL) (hA : AdS ad) (hn : n < nC) (hs : sh[n]? = some (3, N)) (hZ : Zr σ n) (hx0 : ¬ x < 0) (hxN : x.toNatClampNeg = N) (hN : N ≤ 10000) (hcells : cells + 1 ≤ R.cells) (hslots : slots + N ≤ R.slots) (hd : decode cc pc = .ok (.newarray .long, 2)) (kk : GY p l e R s m args below meth c Q D cA ad nL (cells + 1) (slots + N) (n + 1) (pc + 2) lv (.ref n :: st) σ) : GY p l e R s m args below meth c Q D cA ad nL cells slots n pc lv (.int x :: st) σ :=
  gy_newarr (i := 2) (ty := .long) (a0 := (N, .inr (.inl (σ.2.1 n)))) hB hA hn rfl (tb_t 1337 (by decide +kernel) (by decide +kernel)) hs rfl (by rw [(hZ n (Nat.le_refl n)).2.1]; rfl) ((hB.2.2.2.2.2.1.2 2 _ rfl).2) hx0 hxN (by show N * 8 ≤ _; omega) hcells hslots hd kk
end GYS
