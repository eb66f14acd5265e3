/-! GY: the walk of GX with the first n cells made, the heap ending there -/
def wsN (ad : Nat → Nat) (cA : Nat → ClassId) (σ : AS) (n : Nat) : va_W := (List.range n).map (fun k => (ad k, cellA ad cA σ k (sh.getD k (0, 0))))
theorem wsN_all {ad : Nat → Nat} {cA : Nat → ClassId} {σ : AS} : wsN ad cA σ nC = wsA ad cA σ := rfl
theorem wsN_get {ad : Nat → Nat} {cA : Nat → ClassId} {σ : AS} {k n : Nat} {s : Nat × Nat} (h : sh[k]? = some s) (hk : k < n) : (wsN ad cA σ n)[k]? = some (ad k, cellA ad cA σ k s) := by
  have e : sh.getD k (0, 0) = s := by rw [List.getD_eq_getElem?_getD, h]; rfl
  unfold wsN
  rw [List.getElem?_map, List.getElem?_range hk]
  simp [h]
theorem wsN_set {ad : Nat → Nat} {cA : Nat → ClassId} {σ σ' : AS} {k n : Nat} {s : Nat × Nat} {x : va_E} (h : sh[k]? = some s) (hk : k < n) (h1 : cellA ad cA σ' k s = x) (h2 : ∀ i, i ≠ k → ∀ s, cellA ad cA σ' i s = cellA ad cA σ i s) : (wsN ad cA σ n).set k (ad k, x) = wsN ad cA σ' n := by
  have e : sh.getD k (0, 0) = s := by rw [List.getD_eq_getElem?_getD, h]; rfl
  unfold wsN
  apply List.ext_getElem?
  intro i
  rw [List.getElem?_set]
  by_cases hij : k = i
  · subst hij
    rw [if_pos rfl, List.getElem?_map, List.getElem?_range hk]
    simp only [Option.map_some, e, h1]
    simp [hk]
  · rw [if_neg hij, List.getElem?_map, List.getElem?_map]
    by_cases hi : i < n
    · rw [List.getElem?_range hi]
      simp [h2 i (fun q => hij q.symm)]
    · have : (List.range n)[i]? = none := by simp; omega
      rw [this]; rfl
theorem wsN_at {ad : Nat → Nat} {cA : Nat → ClassId} {σ : AS} {n k : Nat} {q : Nat × va_E} (h : (wsN ad cA σ n)[k]? = some q) : k < n ∧ q.1 = ad k := by
  unfold wsN at h
  rw [List.getElem?_map] at h
  by_cases hk : k < n
  · rw [List.getElem?_range hk] at h
    refine ⟨hk, ?_⟩
    have := Option.some.inj h
    rw [← this]
  · have : (List.range n)[k]? = none := by simp; omega
    rw [this] at h; cases h
theorem wsN_D {ad : Nat → Nat} {cA : Nat → ClassId} {σ : AS} {n : Nat} (hn : n ≤ nC) (hi : ∀ i j, i < nC → j < nC → ad i = ad j → i = j) : va_D (oA ad) (wsN ad cA σ n) := by
  refine ⟨fun i j p q hp hq e => ?_, fun k q h => ?_⟩
  · obtain ⟨a1, a2⟩ := wsN_at hp
    obtain ⟨b1, b2⟩ := wsN_at hq
    exact hi i j (by omega) (by omega) (by rw [← a2, ← b2]; exact e)
  · obtain ⟨a1, a2⟩ := wsN_at h
    exact ⟨k, by omega, a2.symm⟩
theorem wsN_succ {ad : Nat → Nat} {cA : Nat → ClassId} {σ : AS} {n : Nat} {s : Nat × Nat} (h : sh[n]? = some s) : wsN ad cA σ (n + 1) = wsN ad cA σ n ++ [(ad n, cellA ad cA σ n s)] := by
  have e : sh.getD n (0, 0) = s := by rw [List.getD_eq_getElem?_getD, h]; rfl
  unfold wsN
  rw [List.range_succ, List.map_append, List.map_cons, List.map_nil, e]
def AdS (ad : Nat → Nat) : Prop := ∀ k, k < nC → ad (k + 1) = ad k + 1
/-- nothing is written yet from cell n on -/
def Zr (σ : AS) (n : Nat) : Prop := ∀ k, n ≤ k → σ.1 k = (fun _ => 0) ∧ σ.2.1 k = (fun _ => 0) ∧ σ.2.2 k = (fun _ => none)
theorem Zr.up {σ : AS} {n k : Nat} (h : Zr σ n) (hk : n ≤ k) : Zr σ k := fun j hj => h j (by omega)
theorem Zr_sR {σ : AS} {n k : Nat} {f : Nat → Option Nat} (h : Zr σ n) (hk : k < n) : Zr (sR σ k f) n := fun j hj => ⟨(h j hj).1, (h j hj).2.1, by simp only [sR]; rw [if_neg (by omega)]; exact (h j hj).2.2⟩
theorem Zr_sI {σ : AS} {n k : Nat} {f : Nat → Int32} (h : Zr σ n) (hk : k < n) : Zr (sI σ k f) n := fun j hj => ⟨by simp only [sI]; rw [if_neg (by omega)]; exact (h j hj).1, (h j hj).2.1, (h j hj).2.2⟩
def GY (p : Program) (l : Launch) (e : Env) (R : Room) (s : State) (m : MethodId) (args : Array Value) (below : List Frame) (meth : Method) (c : Code) (Q : State → Prop) (D : va_G) (cA ad : Nat → Nat) (nL cells slots n pc : Nat) (lv st : List Value) (σ : AS) : Prop :=
  ∀ (H : Heap) (locs : List Loc) (ls : Array Slot), va_P D cls (wsN ad cA σ n) H → H.size = ad n → va_S (oA ad) s.heap H locs → lv_has ls nL (lvL ad lv) → W p l e R s m args below meth c H locs cells slots Q (F0 m pc ls (st.map (cv ad)))
section GYS
variable {p : Program} {l : Launch} {e : Env} {R : Room} {s : State} {m : MethodId} {args : Array Value} {below : List Frame} {meth : Method} {c : Code} {Q : State → Prop} {D : va_G} {cA ad : Nat → Nat} {nL cells slots n pc : Nat} {lv st : List Value} {σ : AS} {own : String} {cc : ByteArray}
theorem gy_aload_n {n9 : Fin 4} {x : Nat} (hB : BX p s m args c D cA ad own cc nL) (hd : decode cc pc = .ok (.aload_n n9, 1)) (hv : lv[(n9 : Nat)]? = some (.ref x)) (k : GY p l e R s m args below meth c Q D cA ad nL cells slots n (pc + 1) lv (.ref x :: st) σ) : GY p l e R s m args below meth c Q D cA ad nL cells slots n pc lv st σ := by
  intro H locs ls hP hsz hS hl
  exact lv_aload_n hB.1 hB.2.1 hd rfl (lvL_get hl hv (by simp)) (k H locs ls hP hsz hS hl)
theorem gy_iload_n {n9 : Fin 4} {x : Int32} (hB : BX p s m args c D cA ad own cc nL) (hd : decode cc pc = .ok (.iload_n n9, 1)) (hv : lv[(n9 : Nat)]? = some (.int x)) (k : GY p l e R s m args below meth c Q D cA ad nL cells slots n (pc + 1) lv (.int x :: st) σ) : GY p l e R s m args below meth c Q D cA ad nL cells slots n pc lv st σ := by
  intro H locs ls hP hsz hS hl
  exact lv_iload_n hB.1 hB.2.1 hd rfl (lvL_get hl hv (by simp)) (k H locs ls hP hsz hS hl)
theorem gy_iconst {n9 : Int} {v : Int32} (hB : BX p s m args c D cA ad own cc nL) (hd : decode cc pc = .ok (.iconst n9, 1)) (hv : Int32.ofInt n9 = v) (k : GY p l e R s m args below meth c Q D cA ad nL cells slots n (pc + 1) lv (.int v :: st) σ) : GY p l e R s m args below meth c Q D cA ad nL cells slots n pc lv st σ := by
  intro H locs ls hP hsz hS hl
  exact lv_iconst hB.1 hB.2.1 hd hv (k H locs ls hP hsz hS hl)
theorem gy_bipush {n9 : Int} {v : Int32} (hB : BX p s m args c D cA ad own cc nL) (hd : decode cc pc = .ok (.bipush n9, 2)) (hv : (Int8.ofInt n9).toInt32 = v) (k : GY p l e R s m args below meth c Q D cA ad nL cells slots n (pc + 2) lv (.int v :: st) σ) : GY p l e R s m args below meth c Q D cA ad nL cells slots n pc lv st σ := by
  intro H locs ls hP hsz hS hl
  exact lv_bipush hB.1 hB.2.1 hd hv (k H locs ls hP hsz hS hl)
theorem gy_sipush {n9 : Int} {v : Int32} (hB : BX p s m args c D cA ad own cc nL) (hd : decode cc pc = .ok (.sipush n9, 3)) (hv : (Int16.ofInt n9).toInt32 = v) (k : GY p l e R s m args below meth c Q D cA ad nL cells slots n (pc + 3) lv (.int v :: st) σ) : GY p l e R s m args below meth c Q D cA ad nL cells slots n pc lv st σ := by
  intro H locs ls hP hsz hS hl
  exact lv_sipush hB.1 hB.2.1 hd hv (k H locs ls hP hsz hS hl)
theorem gy_istore_n {n9 : Fin 4} {x : Int32} (hB : BX p s m args c D cA ad own cc nL) (hd : decode cc pc = .ok (.istore_n n9, 1)) (hi : (n9 : Nat) < nL) (hs : stOK lv (n9 : Nat) = true) (k : GY p l e R s m args below meth c Q D cA ad nL cells slots n (pc + 1) (lv.set (n9 : Nat) (.int x)) st σ) : GY p l e R s m args below meth c Q D cA ad nL cells slots n pc lv (.int x :: st) σ := by
  intro H locs ls hP hsz hS hl
  exact lv_istore_n hB.1 hB.2.1 hd rfl hl hi rfl (fun ls hl => k H locs ls hP hsz hS (lv_less hl (lvL_set hs)))
theorem gy_iinc {i : Nat} {n9 : Int} {x : Int32} (hB : BX p s m args c D cA ad own cc nL) (hd : decode cc pc = .ok (.iinc i n9, 3)) (hv : lv[i]? = some (.int x)) (hi : i < nL) (hs : stOK lv i = true) (k : GY p l e R s m args below meth c Q D cA ad nL cells slots n (pc + 3) (lv.set i (.int (x + Int32.ofInt n9))) st σ) : GY p l e R s m args below meth c Q D cA ad nL cells slots n pc lv st σ := by
  intro H locs ls hP hsz hS hl
  obtain ⟨q, hq⟩ := List.getElem?_of_mem (lvL_mem (ad := ad).mpr ⟨.int x, hv, by simp, rfl⟩ : ((i, cv ad (.int x)) : Nat × Value) ∈ lvL ad lv)
  exact lv_iinc (k := q) hB.1 hB.2.1 hd hl hq rfl hi rfl (fun ls hl => k H locs ls hP hsz hS (lv_less hl (lvL_set hs)))
theorem gy_goto {off : Int} {tgt : Nat} (hB : BX p s m args c D cA ad own cc nL) (hd : decode cc pc = .ok (.goto off, 3)) (ht : (pc : Int) + off = (tgt : Int)) (k : GY p l e R s m args below meth c Q D cA ad nL cells slots n tgt lv st σ) : GY p l e R s m args below meth c Q D cA ad nL cells slots n pc lv st σ := by
  intro H locs ls hP hsz hS hl
  exact lv_goto hB.1 hB.2.1 hd ht (k H locs ls hP hsz hS hl)
theorem gy_icmp_ge {x y : Int32} {off : Int} {tgt : Nat} (hB : BX p s m args c D cA ad own cc nL) (hd : decode cc pc = .ok (.if_icmp .ge off, 3)) (ht : (pc : Int) + off = (tgt : Int)) (kt : y ≤ x → GY p l e R s m args below meth c Q D cA ad nL cells slots n tgt lv st σ) (kf : ¬ y ≤ x → GY p l e R s m args below meth c Q D cA ad nL cells slots n (pc + 3) lv st σ) : GY p l e R s m args below meth c Q D cA ad nL cells slots n pc lv (.int y :: .int x :: st) σ := by
  intro H locs ls hP hsz hS hl
  exact lv_icmp_ge hB.1 hB.2.1 hd ht (fun h => kt h H locs ls hP hsz hS hl) (fun h => kf h H locs ls hP hsz hS hl)
theorem gy_if_eq {x : Int32} {off : Int} {tgt : Nat} (hB : BX p s m args c D cA ad own cc nL) (hd : decode cc pc = .ok (.ifCond .eq off, 3)) (ht : (pc : Int) + off = (tgt : Int)) (kt : x = 0 → GY p l e R s m args below meth c Q D cA ad nL cells slots n tgt lv st σ) (kf : ¬ x = 0 → GY p l e R s m args below meth c Q D cA ad nL cells slots n (pc + 3) lv st σ) : GY p l e R s m args below meth c Q D cA ad nL cells slots n pc lv (.int x :: st) σ := by
  intro H locs ls hP hsz hS hl
  exact lv_if_eq hB.1 hB.2.1 hd ht (fun h => kt h H locs ls hP hsz hS hl) (fun h => kf h H locs ls hP hsz hS hl)
theorem gy_ishr {x y : Int32} (hB : BX p s m args c D cA ad own cc nL) (hd : decode cc pc = .ok (.ishr, 1))  (k : GY p l e R s m args below meth c Q D cA ad nL cells slots n (pc + 1) lv (.int (x >>> (y &&& 31)) :: st) σ) : GY p l e R s m args below meth c Q D cA ad nL cells slots n pc lv (.int y :: .int x :: st) σ := by
  intro H locs ls hP hsz hS hl
  exact lv_ishr hB.1 hB.2.1 hd (k H locs ls hP hsz hS hl)
theorem gy_dup {v : Value} (hB : BX p s m args c D cA ad own cc nL) (hd : decode cc pc = .ok (.dup, 1)) (hv : v.category = 1) (k : GY p l e R s m args below meth c Q D cA ad nL cells slots n (pc + 1) lv (v :: v :: st) σ) : GY p l e R s m args below meth c Q D cA ad nL cells slots n pc lv (v :: st) σ := by
  intro H locs ls hP hsz hS hl
  exact lv_dup hB.1 hB.2.1 hd (by rw [cv_cat]; exact hv) (k H locs ls hP hsz hS hl)
theorem gy_ldcS {i : Nat} (hB : BX p s m args c D cA ad own cc nL) (hi : i < 12) (ho : own = (strT i).1) (hd : decode cc pc = .ok (.ldc (strT i).2.1, 2)) (kk : GY p l e R s m args below meth c Q D cA ad nL cells slots n (pc + 2) lv (.ref (2000 + i) :: st) σ) : GY p l e R s m args below meth c Q D cA ad nL cells slots n pc lv st σ := by
  intro H locs ls hP hsz hS hl
  have hts := hB.2.2.2.2.1
  have hown := hB.2.2.2.1
  exact va_ldcS hB.1 hB.2.1 (by rw [← ho]; exact hown) (hB.2.2.2.2.2.2.2.2.1 i hi).1 hd (kk H locs ls hP hsz hS hl)
theorem gy_scomp {index : Nat} (hB : BX p s m args c D cA ad own cc nL) (hw : Cond.fieldLink own index "java/lang/String" "COMPACT_STRINGS" "Z" ∈ tb) (hd : decode cc pc = .ok (.getstatic index, 3)) (kk : GY p l e R s m args below meth c Q D cA ad nL cells slots n (pc + 3) lv (.int (iI 1) :: st) σ) : GY p l e R s m args below meth c Q D cA ad nL cells slots n pc lv st σ := by
  intro H locs ls hP hsz hS hl
  have hts := hB.2.2.2.2.1
  have hown := hB.2.2.2.1
  exact va_gets hB.1 hB.2.1 hB.2.2.2.2.2.2.2.2.2.1 hS hown (hts _ hw) (fun _ h => h) hd (kk H locs ls hP hsz hS hl)
theorem gy_scod {i index : Nat} (hB : BX p s m args c D cA ad own cc nL) (hi : i < 12) (hw : Cond.fieldLink own index "java/lang/String" "coder" "B" ∈ tb) (hd : decode cc pc = .ok (.getfield index, 3)) (kk : GY p l e R s m args below meth c Q D cA ad nL cells slots n (pc + 3) lv (.int (iI 0) :: st) σ) : GY p l e R s m args below meth c Q D cA ad nL cells slots n pc lv (.ref (2000 + i) :: st) σ := by
  intro H locs ls hP hsz hS hl
  have hts := hB.2.2.2.2.1
  have hown := hB.2.2.2.1
  exact vk_getf hB.1 hB.2.1 (hB.2.2.2.2.2.2.2.2.1 i hi).2.2.1 hS hown (hts _ hw) (fun _ h => h) hd (kk H locs ls hP hsz hS hl)
theorem gy_sval {i index : Nat} (hB : BX p s m args c D cA ad own cc nL) (hi : i < 12) (hw : Cond.fieldLink own index "java/lang/String" "value" "[B" ∈ tb) (hd : decode cc pc = .ok (.getfield index, 3)) (kk : GY p l e R s m args below meth c Q D cA ad nL cells slots n (pc + 3) lv (.ref (3000 + i) :: st) σ) : GY p l e R s m args below meth c Q D cA ad nL cells slots n pc lv (.ref (2000 + i) :: st) σ := by
  intro H locs ls hP hsz hS hl
  have hts := hB.2.2.2.2.1
  have hown := hB.2.2.2.1
  exact vk_getf hB.1 hB.2.1 (hB.2.2.2.2.2.2.2.2.1 i hi).2.2.2.1 hS hown (hts _ hw) (fun _ h => h) hd (kk H locs ls hP hsz hS hl)
theorem gy_slen {i : Nat} (hB : BX p s m args c D cA ad own cc nL) (hi : i < 12) (hd : decode cc pc = .ok (.arraylength, 1)) (kk : GY p l e R s m args below meth c Q D cA ad nL cells slots n (pc + 1) lv (.int (iI (strB i).length) :: st) σ) : GY p l e R s m args below meth c Q D cA ad nL cells slots n pc lv (.ref (3000 + i) :: st) σ := by
  intro H locs ls hP hsz hS hl
  exact va_tlen hB.1 hB.2.1 (hB.2.2.2.2.2.2.2.2.1 i hi).2.2.2.2 hS (iI_ofNat _) hd (kk H locs ls hP hsz hS hl)
end GYS
