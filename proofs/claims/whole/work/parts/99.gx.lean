/-! GX: the walk of Go for any end, any room, cells and slots counted -/
def GX (p : Program) (l : Launch) (e : Env) (R : Room) (s : State) (m : MethodId) (args : Array Value) (below : List Frame) (meth : Method) (c : Code) (Q : State → Prop) (D : va_G) (cA ad : Nat → Nat) (nL cells slots pc : Nat) (lv st : List Value) (σ : AS) : Prop :=
  ∀ (H : Heap) (locs : List Loc) (ls : Array Slot), va_P D cls (wsA ad cA σ) H → va_S (oA ad) s.heap H locs → lv_has ls nL (lvL ad lv) → W p l e R s m args below meth c H locs cells slots Q (F0 m pc ls (st.map (cv ad)))
/-- what the walk stands on -/
def BX (p : Program) (s : State) (m : MethodId) (args : Array Value) (c : Code) (D : va_G) (cA ad : Nat → Nat) (own : String) (cc : ByteArray) (nL : Nat) : Prop :=
  p.tables.exec = Jvm.exec ∧ c.code = cc ∧ c.maxLocals = nL ∧ s.vm.findClass own = some m.cls ∧ (∀ w ∈ tb, w.before args s = true) ∧ Cx D cA ad s s.heap
section GXS
variable {p : Program} {l : Launch} {e : Env} {R : Room} {s : State} {m : MethodId} {args : Array Value} {below : List Frame} {meth : Method} {c : Code} {Q : State → Prop} {D : va_G} {cA ad : Nat → Nat} {nL cells slots pc : Nat} {lv st : List Value} {σ : AS} {own : String} {cc : ByteArray}
theorem gx_aload_n {n : Fin 4} {x : Nat} (hB : BX p s m args c D cA ad own cc nL) (hd : decode cc pc = .ok (.aload_n n, 1)) (hv : lv[(n : Nat)]? = some (.ref x)) (k : GX p l e R s m args below meth c Q D cA ad nL cells slots (pc + 1) lv (.ref x :: st) σ) : GX p l e R s m args below meth c Q D cA ad nL cells slots pc lv st σ := by
  intro H locs ls hP hS hl
  exact lv_aload_n hB.1 hB.2.1 hd rfl (lvL_get hl hv (by simp)) (k H locs ls hP hS hl)
theorem gx_iload_n {n : Fin 4} {x : Int32} (hB : BX p s m args c D cA ad own cc nL) (hd : decode cc pc = .ok (.iload_n n, 1)) (hv : lv[(n : Nat)]? = some (.int x)) (k : GX p l e R s m args below meth c Q D cA ad nL cells slots (pc + 1) lv (.int x :: st) σ) : GX p l e R s m args below meth c Q D cA ad nL cells slots pc lv st σ := by
  intro H locs ls hP hS hl
  exact lv_iload_n hB.1 hB.2.1 hd rfl (lvL_get hl hv (by simp)) (k H locs ls hP hS hl)
theorem gx_iload {i : Nat} {x : Int32} (hB : BX p s m args c D cA ad own cc nL) (hd : decode cc pc = .ok (.iload i, 2)) (hv : lv[i]? = some (.int x)) (k : GX p l e R s m args below meth c Q D cA ad nL cells slots (pc + 2) lv (.int x :: st) σ) : GX p l e R s m args below meth c Q D cA ad nL cells slots pc lv st σ := by
  intro H locs ls hP hS hl
  exact lv_iload hB.1 hB.2.1 hd (lvL_get hl hv (by simp)) (k H locs ls hP hS hl)
theorem gx_aload {i : Nat} {x : Nat} (hB : BX p s m args c D cA ad own cc nL) (hd : decode cc pc = .ok (.aload i, 2)) (hv : lv[i]? = some (.ref x)) (k : GX p l e R s m args below meth c Q D cA ad nL cells slots (pc + 2) lv (.ref x :: st) σ) : GX p l e R s m args below meth c Q D cA ad nL cells slots pc lv st σ := by
  intro H locs ls hP hS hl
  exact lv_aload hB.1 hB.2.1 hd (lvL_get hl hv (by simp)) (k H locs ls hP hS hl)
theorem gx_iconst {n : Int} {v : Int32} (hB : BX p s m args c D cA ad own cc nL) (hd : decode cc pc = .ok (.iconst n, 1)) (hv : Int32.ofInt n = v) (k : GX p l e R s m args below meth c Q D cA ad nL cells slots (pc + 1) lv (.int v :: st) σ) : GX p l e R s m args below meth c Q D cA ad nL cells slots pc lv st σ := by
  intro H locs ls hP hS hl
  exact lv_iconst hB.1 hB.2.1 hd hv (k H locs ls hP hS hl)
theorem gx_bipush {n : Int} {v : Int32} (hB : BX p s m args c D cA ad own cc nL) (hd : decode cc pc = .ok (.bipush n, 2)) (hv : (Int8.ofInt n).toInt32 = v) (k : GX p l e R s m args below meth c Q D cA ad nL cells slots (pc + 2) lv (.int v :: st) σ) : GX p l e R s m args below meth c Q D cA ad nL cells slots pc lv st σ := by
  intro H locs ls hP hS hl
  exact lv_bipush hB.1 hB.2.1 hd hv (k H locs ls hP hS hl)
theorem gx_sipush {n : Int} {v : Int32} (hB : BX p s m args c D cA ad own cc nL) (hd : decode cc pc = .ok (.sipush n, 3)) (hv : (Int16.ofInt n).toInt32 = v) (k : GX p l e R s m args below meth c Q D cA ad nL cells slots (pc + 3) lv (.int v :: st) σ) : GX p l e R s m args below meth c Q D cA ad nL cells slots pc lv st σ := by
  intro H locs ls hP hS hl
  exact lv_sipush hB.1 hB.2.1 hd hv (k H locs ls hP hS hl)
theorem gx_iadd {x y : Int32} (hB : BX p s m args c D cA ad own cc nL) (hd : decode cc pc = .ok (.iadd, 1))  (k : GX p l e R s m args below meth c Q D cA ad nL cells slots (pc + 1) lv (.int (x + y) :: st) σ) : GX p l e R s m args below meth c Q D cA ad nL cells slots pc lv (.int y :: .int x :: st) σ := by
  intro H locs ls hP hS hl
  exact lv_iadd hB.1 hB.2.1 hd (k H locs ls hP hS hl)
theorem gx_isub {x y : Int32} (hB : BX p s m args c D cA ad own cc nL) (hd : decode cc pc = .ok (.isub, 1))  (k : GX p l e R s m args below meth c Q D cA ad nL cells slots (pc + 1) lv (.int (x - y) :: st) σ) : GX p l e R s m args below meth c Q D cA ad nL cells slots pc lv (.int y :: .int x :: st) σ := by
  intro H locs ls hP hS hl
  exact lv_isub hB.1 hB.2.1 hd (k H locs ls hP hS hl)
theorem gx_iand {x y : Int32} (hB : BX p s m args c D cA ad own cc nL) (hd : decode cc pc = .ok (.iand, 1))  (k : GX p l e R s m args below meth c Q D cA ad nL cells slots (pc + 1) lv (.int (x &&& y) :: st) σ) : GX p l e R s m args below meth c Q D cA ad nL cells slots pc lv (.int y :: .int x :: st) σ := by
  intro H locs ls hP hS hl
  exact lv_iand hB.1 hB.2.1 hd (k H locs ls hP hS hl)
theorem gx_i2l {x : Int32} (hB : BX p s m args c D cA ad own cc nL) (hd : decode cc pc = .ok (.i2l, 1))  (k : GX p l e R s m args below meth c Q D cA ad nL cells slots (pc + 1) lv (.long x.toInt64 :: st) σ) : GX p l e R s m args below meth c Q D cA ad nL cells slots pc lv (.int x :: st) σ := by
  intro H locs ls hP hS hl
  exact lv_i2l hB.1 hB.2.1 hd rfl (k H locs ls hP hS hl)
theorem gx_l2i {x : Int64} (hB : BX p s m args c D cA ad own cc nL) (hd : decode cc pc = .ok (.l2i, 1))  (k : GX p l e R s m args below meth c Q D cA ad nL cells slots (pc + 1) lv (.int x.toInt32 :: st) σ) : GX p l e R s m args below meth c Q D cA ad nL cells slots pc lv (.long x :: st) σ := by
  intro H locs ls hP hS hl
  exact lv_l2i hB.1 hB.2.1 hd rfl (k H locs ls hP hS hl)
theorem gx_lshl {x : Int64} {y : Int32} (hB : BX p s m args c D cA ad own cc nL) (hd : decode cc pc = .ok (.lshl, 1))  (k : GX p l e R s m args below meth c Q D cA ad nL cells slots (pc + 1) lv (.long (x <<< (y.toInt64 &&& 63)) :: st) σ) : GX p l e R s m args below meth c Q D cA ad nL cells slots pc lv (.int y :: .long x :: st) σ := by
  intro H locs ls hP hS hl
  exact lv_lshl hB.1 hB.2.1 hd rfl (k H locs ls hP hS hl)
theorem gx_land {x y : Int64} (hB : BX p s m args c D cA ad own cc nL) (hd : decode cc pc = .ok (.land, 1))  (k : GX p l e R s m args below meth c Q D cA ad nL cells slots (pc + 1) lv (.long (x &&& y) :: st) σ) : GX p l e R s m args below meth c Q D cA ad nL cells slots pc lv (.long y :: .long x :: st) σ := by
  intro H locs ls hP hS hl
  exact lv_land hB.1 hB.2.1 hd (k H locs ls hP hS hl)
theorem gx_lor {x y : Int64} (hB : BX p s m args c D cA ad own cc nL) (hd : decode cc pc = .ok (.lor, 1))  (k : GX p l e R s m args below meth c Q D cA ad nL cells slots (pc + 1) lv (.long (x ||| y) :: st) σ) : GX p l e R s m args below meth c Q D cA ad nL cells slots pc lv (.long y :: .long x :: st) σ := by
  intro H locs ls hP hS hl
  exact lv_lor hB.1 hB.2.1 hd (k H locs ls hP hS hl)
theorem gx_lcmp {x y : Int64} (hB : BX p s m args c D cA ad own cc nL) (hd : decode cc pc = .ok (.lcmp, 1))  (k : GX p l e R s m args below meth c Q D cA ad nL cells slots (pc + 1) lv (.int (lg_cmp x y) :: st) σ) : GX p l e R s m args below meth c Q D cA ad nL cells slots pc lv (.long y :: .long x :: st) σ := by
  intro H locs ls hP hS hl
  exact W.lcmp hB.1 hB.2.1 hd (k H locs ls hP hS hl)
theorem gx_istore {i : Nat} {x : Int32} (hB : BX p s m args c D cA ad own cc nL) (hd : decode cc pc = .ok (.istore i, 2)) (hi : i < nL) (hs : stOK lv i = true) (k : GX p l e R s m args below meth c Q D cA ad nL cells slots (pc + 2) (lv.set i (.int x)) st σ) : GX p l e R s m args below meth c Q D cA ad nL cells slots pc lv (.int x :: st) σ := by
  intro H locs ls hP hS hl
  exact lv_istore hB.1 hB.2.1 hd hl hi rfl (fun ls hl => k H locs ls hP hS (lv_less hl (lvL_set hs)))
theorem gx_istore_n {n : Fin 4} {x : Int32} (hB : BX p s m args c D cA ad own cc nL) (hd : decode cc pc = .ok (.istore_n n, 1)) (hi : (n : Nat) < nL) (hs : stOK lv (n : Nat) = true) (k : GX p l e R s m args below meth c Q D cA ad nL cells slots (pc + 1) (lv.set (n : Nat) (.int x)) st σ) : GX p l e R s m args below meth c Q D cA ad nL cells slots pc lv (.int x :: st) σ := by
  intro H locs ls hP hS hl
  exact lv_istore_n hB.1 hB.2.1 hd rfl hl hi rfl (fun ls hl => k H locs ls hP hS (lv_less hl (lvL_set hs)))
theorem gx_astore_n {n : Fin 4} {x : Nat} (hB : BX p s m args c D cA ad own cc nL) (hd : decode cc pc = .ok (.astore_n n, 1)) (hi : (n : Nat) < nL) (hs : stOK lv (n : Nat) = true) (k : GX p l e R s m args below meth c Q D cA ad nL cells slots (pc + 1) (lv.set (n : Nat) (.ref x)) st σ) : GX p l e R s m args below meth c Q D cA ad nL cells slots pc lv (.ref x :: st) σ := by
  intro H locs ls hP hS hl
  exact lv_astore_n hB.1 hB.2.1 hd rfl hl hi rfl (fun ls hl => k H locs ls hP hS (lv_less hl (lvL_set hs)))
theorem gx_astore {i : Nat} {x : Nat} (hB : BX p s m args c D cA ad own cc nL) (hd : decode cc pc = .ok (.astore i, 2)) (hi : i < nL) (hs : stOK lv i = true) (k : GX p l e R s m args below meth c Q D cA ad nL cells slots (pc + 2) (lv.set i (.ref x)) st σ) : GX p l e R s m args below meth c Q D cA ad nL cells slots pc lv (.ref x :: st) σ := by
  intro H locs ls hP hS hl
  exact lv_astore hB.1 hB.2.1 hd hl hi rfl (fun ls hl => k H locs ls hP hS (lv_less hl (lvL_set hs)))
theorem gx_iinc {i : Nat} {n : Int} {x : Int32} (hB : BX p s m args c D cA ad own cc nL) (hd : decode cc pc = .ok (.iinc i n, 3)) (hv : lv[i]? = some (.int x)) (hi : i < nL) (hs : stOK lv i = true) (k : GX p l e R s m args below meth c Q D cA ad nL cells slots (pc + 3) (lv.set i (.int (x + Int32.ofInt n))) st σ) : GX p l e R s m args below meth c Q D cA ad nL cells slots pc lv st σ := by
  intro H locs ls hP hS hl
  obtain ⟨q, hq⟩ := List.getElem?_of_mem (lvL_mem (ad := ad).mpr ⟨.int x, hv, by simp, rfl⟩ : ((i, cv ad (.int x)) : Nat × Value) ∈ lvL ad lv)
  exact lv_iinc (k := q) hB.1 hB.2.1 hd hl hq rfl hi rfl (fun ls hl => k H locs ls hP hS (lv_less hl (lvL_set hs)))
theorem gx_goto {off : Int} {tgt : Nat} (hB : BX p s m args c D cA ad own cc nL) (hd : decode cc pc = .ok (.goto off, 3)) (ht : (pc : Int) + off = (tgt : Int)) (k : GX p l e R s m args below meth c Q D cA ad nL cells slots tgt lv st σ) : GX p l e R s m args below meth c Q D cA ad nL cells slots pc lv st σ := by
  intro H locs ls hP hS hl
  exact lv_goto hB.1 hB.2.1 hd ht (k H locs ls hP hS hl)
theorem gx_icmp_eq {x y : Int32} {off : Int} {tgt : Nat} (hB : BX p s m args c D cA ad own cc nL) (hd : decode cc pc = .ok (.if_icmp .eq off, 3)) (ht : (pc : Int) + off = (tgt : Int)) (kt : x = y → GX p l e R s m args below meth c Q D cA ad nL cells slots tgt lv st σ) (kf : ¬ x = y → GX p l e R s m args below meth c Q D cA ad nL cells slots (pc + 3) lv st σ) : GX p l e R s m args below meth c Q D cA ad nL cells slots pc lv (.int y :: .int x :: st) σ := by
  intro H locs ls hP hS hl
  exact lv_icmp_eq hB.1 hB.2.1 hd ht (fun h => kt h H locs ls hP hS hl) (fun h => kf h H locs ls hP hS hl)
theorem gx_icmp_ne {x y : Int32} {off : Int} {tgt : Nat} (hB : BX p s m args c D cA ad own cc nL) (hd : decode cc pc = .ok (.if_icmp .ne off, 3)) (ht : (pc : Int) + off = (tgt : Int)) (kt : ¬ x = y → GX p l e R s m args below meth c Q D cA ad nL cells slots tgt lv st σ) (kf : x = y → GX p l e R s m args below meth c Q D cA ad nL cells slots (pc + 3) lv st σ) : GX p l e R s m args below meth c Q D cA ad nL cells slots pc lv (.int y :: .int x :: st) σ := by
  intro H locs ls hP hS hl
  exact lv_icmp_ne hB.1 hB.2.1 hd ht (fun h => kt h H locs ls hP hS hl) (fun h => kf h H locs ls hP hS hl)
theorem gx_icmp_lt {x y : Int32} {off : Int} {tgt : Nat} (hB : BX p s m args c D cA ad own cc nL) (hd : decode cc pc = .ok (.if_icmp .lt off, 3)) (ht : (pc : Int) + off = (tgt : Int)) (kt : x < y → GX p l e R s m args below meth c Q D cA ad nL cells slots tgt lv st σ) (kf : ¬ x < y → GX p l e R s m args below meth c Q D cA ad nL cells slots (pc + 3) lv st σ) : GX p l e R s m args below meth c Q D cA ad nL cells slots pc lv (.int y :: .int x :: st) σ := by
  intro H locs ls hP hS hl
  exact lv_icmp_lt hB.1 hB.2.1 hd ht (fun h => kt h H locs ls hP hS hl) (fun h => kf h H locs ls hP hS hl)
theorem gx_icmp_ge {x y : Int32} {off : Int} {tgt : Nat} (hB : BX p s m args c D cA ad own cc nL) (hd : decode cc pc = .ok (.if_icmp .ge off, 3)) (ht : (pc : Int) + off = (tgt : Int)) (kt : y ≤ x → GX p l e R s m args below meth c Q D cA ad nL cells slots tgt lv st σ) (kf : ¬ y ≤ x → GX p l e R s m args below meth c Q D cA ad nL cells slots (pc + 3) lv st σ) : GX p l e R s m args below meth c Q D cA ad nL cells slots pc lv (.int y :: .int x :: st) σ := by
  intro H locs ls hP hS hl
  exact lv_icmp_ge hB.1 hB.2.1 hd ht (fun h => kt h H locs ls hP hS hl) (fun h => kf h H locs ls hP hS hl)
theorem gx_icmp_gt {x y : Int32} {off : Int} {tgt : Nat} (hB : BX p s m args c D cA ad own cc nL) (hd : decode cc pc = .ok (.if_icmp .gt off, 3)) (ht : (pc : Int) + off = (tgt : Int)) (kt : y < x → GX p l e R s m args below meth c Q D cA ad nL cells slots tgt lv st σ) (kf : ¬ y < x → GX p l e R s m args below meth c Q D cA ad nL cells slots (pc + 3) lv st σ) : GX p l e R s m args below meth c Q D cA ad nL cells slots pc lv (.int y :: .int x :: st) σ := by
  intro H locs ls hP hS hl
  exact lv_icmp_gt hB.1 hB.2.1 hd ht (fun h => kt h H locs ls hP hS hl) (fun h => kf h H locs ls hP hS hl)
theorem gx_icmp_le {x y : Int32} {off : Int} {tgt : Nat} (hB : BX p s m args c D cA ad own cc nL) (hd : decode cc pc = .ok (.if_icmp .le off, 3)) (ht : (pc : Int) + off = (tgt : Int)) (kt : x ≤ y → GX p l e R s m args below meth c Q D cA ad nL cells slots tgt lv st σ) (kf : ¬ x ≤ y → GX p l e R s m args below meth c Q D cA ad nL cells slots (pc + 3) lv st σ) : GX p l e R s m args below meth c Q D cA ad nL cells slots pc lv (.int y :: .int x :: st) σ := by
  intro H locs ls hP hS hl
  exact lv_icmp_le hB.1 hB.2.1 hd ht (fun h => kt h H locs ls hP hS hl) (fun h => kf h H locs ls hP hS hl)
theorem gx_if_eq {x : Int32} {off : Int} {tgt : Nat} (hB : BX p s m args c D cA ad own cc nL) (hd : decode cc pc = .ok (.ifCond .eq off, 3)) (ht : (pc : Int) + off = (tgt : Int)) (kt : x = 0 → GX p l e R s m args below meth c Q D cA ad nL cells slots tgt lv st σ) (kf : ¬ x = 0 → GX p l e R s m args below meth c Q D cA ad nL cells slots (pc + 3) lv st σ) : GX p l e R s m args below meth c Q D cA ad nL cells slots pc lv (.int x :: st) σ := by
  intro H locs ls hP hS hl
  exact lv_if_eq hB.1 hB.2.1 hd ht (fun h => kt h H locs ls hP hS hl) (fun h => kf h H locs ls hP hS hl)
theorem gx_if_ne {x : Int32} {off : Int} {tgt : Nat} (hB : BX p s m args c D cA ad own cc nL) (hd : decode cc pc = .ok (.ifCond .ne off, 3)) (ht : (pc : Int) + off = (tgt : Int)) (kt : ¬ x = 0 → GX p l e R s m args below meth c Q D cA ad nL cells slots tgt lv st σ) (kf : x = 0 → GX p l e R s m args below meth c Q D cA ad nL cells slots (pc + 3) lv st σ) : GX p l e R s m args below meth c Q D cA ad nL cells slots pc lv (.int x :: st) σ := by
  intro H locs ls hP hS hl
  exact lv_if_ne hB.1 hB.2.1 hd ht (fun h => kt h H locs ls hP hS hl) (fun h => kf h H locs ls hP hS hl)
theorem gx_if_lt {x : Int32} {off : Int} {tgt : Nat} (hB : BX p s m args c D cA ad own cc nL) (hd : decode cc pc = .ok (.ifCond .lt off, 3)) (ht : (pc : Int) + off = (tgt : Int)) (kt : x < 0 → GX p l e R s m args below meth c Q D cA ad nL cells slots tgt lv st σ) (kf : ¬ x < 0 → GX p l e R s m args below meth c Q D cA ad nL cells slots (pc + 3) lv st σ) : GX p l e R s m args below meth c Q D cA ad nL cells slots pc lv (.int x :: st) σ := by
  intro H locs ls hP hS hl
  exact lv_if_lt hB.1 hB.2.1 hd ht (fun h => kt h H locs ls hP hS hl) (fun h => kf h H locs ls hP hS hl)
theorem gx_if_ge {x : Int32} {off : Int} {tgt : Nat} (hB : BX p s m args c D cA ad own cc nL) (hd : decode cc pc = .ok (.ifCond .ge off, 3)) (ht : (pc : Int) + off = (tgt : Int)) (kt : 0 ≤ x → GX p l e R s m args below meth c Q D cA ad nL cells slots tgt lv st σ) (kf : ¬ 0 ≤ x → GX p l e R s m args below meth c Q D cA ad nL cells slots (pc + 3) lv st σ) : GX p l e R s m args below meth c Q D cA ad nL cells slots pc lv (.int x :: st) σ := by
  intro H locs ls hP hS hl
  exact lv_if_ge hB.1 hB.2.1 hd ht (fun h => kt h H locs ls hP hS hl) (fun h => kf h H locs ls hP hS hl)
theorem gx_if_gt {x : Int32} {off : Int} {tgt : Nat} (hB : BX p s m args c D cA ad own cc nL) (hd : decode cc pc = .ok (.ifCond .gt off, 3)) (ht : (pc : Int) + off = (tgt : Int)) (kt : 0 < x → GX p l e R s m args below meth c Q D cA ad nL cells slots tgt lv st σ) (kf : ¬ 0 < x → GX p l e R s m args below meth c Q D cA ad nL cells slots (pc + 3) lv st σ) : GX p l e R s m args below meth c Q D cA ad nL cells slots pc lv (.int x :: st) σ := by
  intro H locs ls hP hS hl
  exact lv_if_gt hB.1 hB.2.1 hd ht (fun h => kt h H locs ls hP hS hl) (fun h => kf h H locs ls hP hS hl)
theorem gx_if_le {x : Int32} {off : Int} {tgt : Nat} (hB : BX p s m args c D cA ad own cc nL) (hd : decode cc pc = .ok (.ifCond .le off, 3)) (ht : (pc : Int) + off = (tgt : Int)) (kt : x ≤ 0 → GX p l e R s m args below meth c Q D cA ad nL cells slots tgt lv st σ) (kf : ¬ x ≤ 0 → GX p l e R s m args below meth c Q D cA ad nL cells slots (pc + 3) lv st σ) : GX p l e R s m args below meth c Q D cA ad nL cells slots pc lv (.int x :: st) σ := by
  intro H locs ls hP hS hl
  exact lv_if_le hB.1 hB.2.1 hd ht (fun h => kt h H locs ls hP hS hl) (fun h => kf h H locs ls hP hS hl)
theorem gx_tabIn {dflt lo hi : Int} {offs : Array Int} {len : Nat} {x : Int32} {off : Int} {tgt : Nat} (hB : BX p s m args c D cA ad own cc nL) (hd : decode cc pc = .ok (.tableswitch dflt lo hi offs, len)) (h1 : ¬ x.toInt < lo) (h2 : ¬ hi < x.toInt) (ho : offs[(x.toInt - lo).toNat]? = some off) (ht : (pc : Int) + off = (tgt : Int)) (kk : GX p l e R s m args below meth c Q D cA ad nL cells slots tgt lv st σ) : GX p l e R s m args below meth c Q D cA ad nL cells slots pc lv (.int x :: st) σ := by
  intro H locs ls hP hS hl
  exact lv_tableIn hB.1 hB.2.1 hd h1 h2 ho ht (kk H locs ls hP hS hl)
theorem gx_tabOut {dflt lo hi : Int} {offs : Array Int} {len : Nat} {x : Int32} {tgt : Nat} (hB : BX p s m args c D cA ad own cc nL) (hd : decode cc pc = .ok (.tableswitch dflt lo hi offs, len)) (h : x.toInt < lo ∨ hi < x.toInt) (ht : (pc : Int) + dflt = (tgt : Int)) (kk : GX p l e R s m args below meth c Q D cA ad nL cells slots tgt lv st σ) : GX p l e R s m args below meth c Q D cA ad nL cells slots pc lv (.int x :: st) σ := by
  intro H locs ls hP hS hl
  exact lv_tableOut hB.1 hB.2.1 hd h ht (kk H locs ls hP hS hl)
theorem gx_lald {k n : Nat} {i : Int32} (hB : BX p s m args c D cA ad own cc nL) (hd : decode cc pc = .ok (.laload, 1)) (hs : sh[k]? = some (3, n)) (hi : vp_in i n) (kk : GX p l e R s m args below meth c Q D cA ad nL cells slots (pc + 1) lv (.long (σ.2.1 k i.toNatClampNeg) :: st) σ) : GX p l e R s m args below meth c Q D cA ad nL cells slots pc lv (.int i :: .ref k :: st) σ := by
  intro H locs ls hP hS hl
  exact va_lald (D := D) hB.1 hB.2.1 hB.2.2.2.2.2.1 hP k 2 (wsA_get hs) rfl hi hd (kk H locs ls hP hS hl)
theorem gx_last {k n : Nat} {i : Int32} {x : Int64} (hB : BX p s m args c D cA ad own cc nL) (hd : decode cc pc = .ok (.lastore, 1)) (hs : sh[k]? = some (3, n)) (hi : vp_in i n) (kk : GX p l e R s m args below meth c Q D cA ad nL cells slots (pc + 1) lv st (sL σ k (vp_updL (σ.2.1 k) i.toNatClampNeg x))) : GX p l e R s m args below meth c Q D cA ad nL cells slots pc lv (.long x :: .int i :: .ref k :: st) σ := by
  intro H locs ls hP hS hl
  have hE : (wsA ad cA σ).set k (ad k, .inl (cA 2, n, .inr (.inl (vp_updL (σ.2.1 k) i.toNatClampNeg x)))) = wsA ad cA (sL σ k (vp_updL (σ.2.1 k) i.toNatClampNeg x)) := wsA_set hs (by show Sum.inl _ = Sum.inl _; simp [sI, sL]) cellA_sL
  refine va_last (D := D) hB.1 hB.2.1 hB.2.2.2.2.2.1 hP (wsA_D hB.2.2.2.2.2.2.1) hS k 2 (wsA_get hs) rfl hi hd (fun H1 locs1 hP1 hD1 hS1 => ?_)
  rw [hE] at hP1
  exact kk H1 locs1 ls hP1 hS1 hl
theorem gx_ldc2 {index : Nat} {v : Int64} (hB : BX p s m args c D cA ad own cc nL) (hw : Jvm.Cond.constantLong own index v ∈ tb) (hd : decode cc pc = .ok (.ldc2_w index, 3)) (kk : GX p l e R s m args below meth c Q D cA ad nL cells slots (pc + 3) lv (.long v :: st) σ) : GX p l e R s m args below meth c Q D cA ad nL cells slots pc lv st σ := by
  intro H locs ls hP hS hl
  have hts := hB.2.2.2.2.1
  have hown := hB.2.2.2.1
  exact lv_ldc2 hB.1 hB.2.1 hown (hts _ hw) hd (kk H locs ls hP hS hl)
theorem gx_getR {index ci j k a : Nat} (hB : BX p s m args c D cA ad own cc nL) (hf : fOK own index ci j 2) (hd : decode cc pc = .ok (.getfield index, 3)) (hs : sh[k]? = some (0, ci)) (hr : σ.2.2 k j = some a) (kk : GX p l e R s m args below meth c Q D cA ad nL cells slots (pc + 3) lv (.ref a :: st) σ) : GX p l e R s m args below meth c Q D cA ad nL cells slots pc lv (.ref k :: st) σ := by
  intro H locs ls hP hS hl
  have hts := hB.2.2.2.2.1
  have hown := hB.2.2.2.1
  obtain ⟨q, h1, h2, h3, h4⟩ := hf
  have hv := objV_get (ad := ad) (σ := σ) (k := k) h4
  rw [show fV ad σ k 2 j = Value.ref (ad a) by show va_rf _ = _; rw [hr]; rfl] at hv
  exact va_get (D := D) (C := q.1) (T := q.2.1) (N := q.2.2) (ci := ci) hB.1 hB.2.1 hts (cls_in q (List.mem_of_getElem? h1)) hown hB.2.2.2.2.2.1 hP k (wsA_get hs) h1 j h2 (hts _ h3) (fun _ h => h) hv hd (kk H locs ls hP hS hl)
theorem W_runX {cells slots : Nat} {H : Heap} {locs : List Loc} {g : JFrame} {rest : List Value} {a : Array Value} {K' : Option Value → AS → Prop}
    (hr : va_Run p l e R s m args below meth c H locs cells slots 0 0 g rest (Qk D cA ad K' a) (oA ad)) (hS : va_S (oA ad) s.heap H locs)
    (kk : ∀ (r : Option Value) (σ' : AS) (H1 : Heap) (locs1 : List Loc), K' r σ' → va_P D cls (wsA ad cA σ') H1 → va_S (oA ad) s.heap H1 locs1 → W p l e R s m args below meth c H1 locs1 cells slots Q { g with pc := g.pc + 3, stack := (r.map (cv ad)).toList ++ rest }) : W p l e R s m args below meth c H locs cells slots Q g := by
  intro T hT X
  obtain ⟨v, st₀, t, T', L, h0, X', hL, e1, e2, ⟨⟨r, σ', hv, hp, hb⟩, hz, hk⟩, st⟩ := hr T hT X
  cases hv
  rw [h0] at hz hk
  obtain ⟨t2, a1, b1⟩ := kk r σ' T'.heap (locs ++ L) hp (by rw [e1]; exact hb) ⟨Nat.le_trans hS.1 (by rw [e1]; exact hz), fun q h1 h2 => by rw [e1, hk q (Nat.lt_of_lt_of_le h1 hS.1) h2]; exact hS.2.1 q h1 h2, fun q hq => by
      rcases List.mem_append.mp hq with h | h
      · exact hS.2.2 q h
      · exact hL q h⟩ T' rfl X'
  exact ⟨t2, st t2 a1, b1⟩
theorem tb_good {M' : Mt} (h : Cond.code M'.1 M'.2.1 M'.2.2.1 M'.2.2.2 ∈ tb) : GoodIn tb (wsM M') := by
  intro w hw
  have h1 : w ∈ tb := by
    rcases List.mem_cons.mp hw with e | e
    · rw [e]; exact h
    · exact e
  exact ⟨h1, good_of_word (List.mem_filter.mp h1).2⟩
theorem gx_callV {M' : Mt} {index n k ci d : Nat} {as st0 rest : List Value} (hB : BX p s m args c D cA ad own cc nL) (hR : d + 1 ≤ R.frames ∧ 40 * (d + 1) ≤ R.locals ∧ cells ≤ R.cells ∧ slots ≤ R.slots) (hc : cV own index M' n) (hd : decode cc pc = .ok (.invokevirtual index, 3)) (hs : sh[k]? = some (0, ci)) (hq : (cls[ci]?).map (fun q => q.1) = some M'.1.cls) (hst : st0 = as.reverse ++ .ref k :: rest) (hn : as.length = n) (h8 : (rest.map fun v => v.category).sum ≤ 8)
    (kk : Call l D cA ad d M' (.ref k :: as) σ (fun r σ' => GX p l e R s m args below meth c Q D cA ad nL cells slots (pc + 3) lv (r.toList ++ rest) σ')) : GX p l e R s m args below meth c Q D cA ad nL cells slots pc lv st0 σ := by
  intro H locs ls hP hS hl
  obtain ⟨hx, hb, hml, hown, hts, hC⟩ := hB
  obtain ⟨q, hq1, hq2⟩ : ∃ q, cls[ci]? = some q ∧ q.1 = M'.1.cls := by
    cases h : cls[ci]? with
    | none => rw [h] at hq; cases hq
    | some q => rw [h] at hq; exact ⟨q, rfl, Option.some.inj hq⟩
  have hrec := va_recv hC.1 hP hq1 (wsA_get hs)
  rw [hq2] at hrec
  have hcb : CallB R s args own index M'.1 M'.2.1 M'.2.2.1 M'.2.2.2 (wsM M') (rmD d) 0 0 n :=
    callB_of n hts (tb_good hc.1.2.2.1) rfl rfl rfl (hts _ hc.1.2.1) (hts _ hc.1.1) hc.1.2.2.2.1 ⟨hR.1, by show 8 + (M'.2.2.1 + 11) + 40 * d ≤ R.locals; have := hc.1.2.2.2.2; have := hR.2.1; omega⟩
  refine W_runX (va_runV (C := M'.1.cls) (b := ad k) (As := as.map (cv ad)) (rest := rest.map (cv ad)) ⟨hx, hb, hml, hown, hts⟩ kk ⟨hcb, hts _ hc.2.1, hts _ hc.2.2⟩ ⟨Pk_blind, hrec, fun U hU hW => ⟨rfl, by rw [hU]; exact hP, by rw [hU]; exact (hC.warm hW).kept hS.2.1⟩⟩ rfl (by rw [List.length_map]; exact hn) hl.1 (by subst hst; show List.map _ _ = _; rw [List.map_append, List.map_reverse]; rfl) (lv_room (by rw [cv_cats]; exact h8)) hd ⟨hR.2.2.1, hR.2.2.2⟩) hS (fun r σ' H1 locs1 hk hP1 hS1 => ?_)
  have := hk H1 locs1 ls hP1 hS1 hl
  cases r <;> exact this
theorem gx_sld {b L k : Nat} {xs : Nat → Int32} {i : Int32} (hB : BX p s m args c D cA ad own cc nL) (hX : va_X b L xs s s.heap) (hbl : b < s.heap.size) (hbA : ¬ oA ad b) (hk : ad k = b) (hin : vp_in i L) (hd : decode cc pc = .ok (.iaload, 1)) (kk : GX p l e R s m args below meth c Q D cA ad nL cells slots (pc + 1) lv (.int (xs i.toNatClampNeg) :: st) σ) : GX p l e R s m args below meth c Q D cA ad nL cells slots pc lv (.int i :: .ref k :: st) σ := by
  intro H locs ls hP hS hl
  subst hk
  exact va_sld hB.1 hB.2.1 hX hbl hbA hS hin hd (kk H locs ls hP hS hl)
theorem gx_slen {b L k : Nat} {xs : Nat → Int32} (hB : BX p s m args c D cA ad own cc nL) (hX : va_X b L xs s s.heap) (hbl : b < s.heap.size) (hbA : ¬ oA ad b) (hk : ad k = b) (hd : decode cc pc = .ok (.arraylength, 1)) (kk : GX p l e R s m args below meth c Q D cA ad nL cells slots (pc + 1) lv (.int (Int32.ofNat L) :: st) σ) : GX p l e R s m args below meth c Q D cA ad nL cells slots pc lv (.ref k :: st) σ := by
  intro H locs ls hP hS hl
  subst hk
  exact va_slen hB.1 hB.2.1 hX hbl hbA hS hd (kk H locs ls hP hS hl)
end GXS
