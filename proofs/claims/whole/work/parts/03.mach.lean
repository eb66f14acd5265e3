/-! The abstract store: ints, longs and references by cell and place; cells are named by small numbers. -/
abbrev AS : Type := (Nat → Nat → Int32) × (Nat → Nat → Int64) × (Nat → Nat → Option Nat)
def sI (σ : AS) (k : Nat) (f : Nat → Int32) : AS := (fun a => if a = k then f else σ.1 a, σ.2.1, σ.2.2)
def sL (σ : AS) (k : Nat) (f : Nat → Int64) : AS := (σ.1, fun a => if a = k then f else σ.2.1 a, σ.2.2)
def sR (σ : AS) (k : Nat) (f : Nat → Option Nat) : AS := (σ.1, σ.2.1, fun a => if a = k then f else σ.2.2 a)
/-- the classes, and the kinds of their fields: 0 int, 1 long, 2 reference -/
abbrev cls : List vw_C := [(RX0, TX0, 3), (RX1, TX1, 2), (RX2, TX2, 4), (RX3, TX3, 4), (RX4, TX4, 2), (RX5, TX5, 5), (RX6, TX6, 5), (RX7, TX7, 4), (RX8, TX8, 3), (RX9, TX9, 6), (RX10, TX10, 6), (RX11, TX11, 19), (RX12, TX12, 48)]
def tyf : Nat → Nat → FieldType := fun c => match c with
  | 0 => tyX0 | 1 => tyX1 | 2 => tyX2 | 3 => tyX3 | 4 => tyX4 | 5 => tyX5 | 6 => tyX6 | 7 => tyX7 | 8 => tyX8 | 9 => tyX9 | 10 => tyX10 | 11 => tyX11 | _ => tyX12
def kindOf : FieldType → Nat
  | .int => 0 | .boolean => 0 | .byte => 0 | .long => 1 | _ => 2
def fk (c : Nat) : List Nat := (List.range ((cls.getD c ("", TX0, 0)).2.2)).map (fun j => kindOf (tyf c j))
/-- the cells: (0, class), (1, n) int[n], (2, n) byte[n], (3, n) long[n], (4, n) Law[n], (5, n) Plan[n], (6, n) int[n][] -/
def sh : List (Nat × Nat) :=
  [(0, 11), (0, 8), (1, 240)]
  ++ ([(0, 9), (1, 3), (6, 7)] ++ List.replicate 7 (1, 9) ++ [(6, 9)] ++ List.replicate 9 (1, 5))
  ++ ([(0, 9), (1, 3), (6, 7)] ++ List.replicate 7 (1, 9) ++ [(6, 9)] ++ List.replicate 9 (1, 5))
  ++ [(0, 4), (0, 3), (1, 240), (1, 6), (1, 64)]
  ++ [(0, 2), (4, 4), (0, 3), (1, 240), (1, 6), (1, 64), (0, 3), (1, 240), (1, 6), (1, 64), (0, 3), (1, 240), (1, 6), (1, 64), (0, 3), (1, 240), (1, 6), (1, 64)]
  ++ [(5, 4), (0, 7), (1, 16), (1, 16), (1, 16), (0, 7), (1, 16), (1, 16), (1, 16), (0, 7), (1, 16), (1, 16), (1, 16), (0, 7), (1, 16), (1, 16), (1, 16)]
  ++ [(0, 7), (1, 16), (1, 16), (1, 16)]
  ++ [(0, 10), (1, 7), (1, 7), (1, 7), (0, 1), (1, 300), (0, 0), (1, 1000), (0, 10), (1, 7), (1, 7), (1, 7), (0, 1), (1, 300)]
  ++ [(0, 5), (1, 10), (1, 10), (1, 19), (0, 6), (0, 10), (1, 7), (1, 7), (1, 7), (1, 4)]
  ++ [(0, 12), (2, 240), (2, 960), (1, 4), (1, 128), (1, 3), (1, 3), (1, 63), (1, 63), (1, 45), (1, 45), (1, 240), (1, 5), (1, 205), (1, 205), (3, 8191), (1, 8191), (1, 8200), (1, 10), (1, 10), (1, 19), (1, 205), (3, 1)]
abbrev nC : Nat := 134
theorem sh_len : sh.length = nC := by decide +kernel
def fV (ad : Nat → Nat) (σ : AS) (k t j : Nat) : Value := match t with
  | 0 => .int (σ.1 k j)
  | 1 => .long (σ.2.1 k j)
  | _ => va_rf ((σ.2.2 k j).map ad)
def objV (ad : Nat → Nat) (σ : AS) (k : Nat) (ts : List Nat) : List Value := (List.range ts.length).map (fun j => fV ad σ k (ts.getD j 0) j)
def cellA (ad : Nat → Nat) (cA : Nat → ClassId) (σ : AS) (k : Nat) (s : Nat × Nat) : va_E := match s.1 with
  | 0 => .inr (s.2, objV ad σ k (fk s.2))
  | 1 => .inl (cA 0, s.2, .inl (σ.1 k))
  | 2 => .inl (cA 1, s.2, .inl (σ.1 k))
  | 3 => .inl (cA 2, s.2, .inr (.inl (σ.2.1 k)))
  | t + 4 => .inl (cA (t + 3), s.2, .inr (.inr (.inr (.inr (fun j => (σ.2.2 k j).map ad)))))
def wsA (ad : Nat → Nat) (cA : Nat → ClassId) (σ : AS) : va_W := (List.range nC).map (fun k => (ad k, cellA ad cA σ k (sh.getD k (0, 0))))
abbrev tysA (cA : Nat → ClassId) : List (ClassId × FieldType) := [(cA 0, .int), (cA 1, .byte), (cA 2, .long), (cA 3, .object "PondRoofs$Law"), (cA 4, .object "PondRoofs$Plan"), (cA 5, .array .int)]
/-- the cells that are ours -/
def oA (ad : Nat → Nat) : Nat → Prop := fun q => ∃ k, k < nC ∧ ad k = q
def cv (ad : Nat → Nat) : Value → Value
  | .ref k => .ref (ad k)
  | v => v
theorem objV_get {ad : Nat → Nat} {σ : AS} {k j t : Nat} {ts : List Nat} (h : ts[j]? = some t) : (objV ad σ k ts)[j]? = some (fV ad σ k t j) := by
  have hj : j < ts.length := (List.getElem?_eq_some_iff.mp h).1
  have e : ts.getD j 0 = t := by rw [List.getD_eq_getElem?_getD, h]; rfl
  unfold objV
  rw [List.getElem?_map, List.getElem?_range hj]
  simp [h]
theorem objV_set {ad : Nat → Nat} {σ σ' : AS} {k j t : Nat} {ts : List Nat} {v : Value} (h : ts[j]? = some t) (h1 : fV ad σ' k t j = v) (h2 : ∀ i, i ≠ j → ∀ t, fV ad σ' k t i = fV ad σ k t i) : (objV ad σ k ts).set j v = objV ad σ' k ts := by
  have hj : j < ts.length := (List.getElem?_eq_some_iff.mp h).1
  have e : ts.getD j 0 = t := by rw [List.getD_eq_getElem?_getD, h]; rfl
  unfold objV
  apply List.ext_getElem?
  intro i
  rw [List.getElem?_set]
  by_cases hij : j = i
  · subst hij
    rw [if_pos rfl, List.getElem?_map, List.getElem?_range hj]
    simp only [Option.map_some, e, h1]
    simp [hj]
  · rw [if_neg hij, List.getElem?_map, List.getElem?_map]
    by_cases hi : i < ts.length
    · rw [List.getElem?_range hi]
      simp [h2 i (fun q => hij q.symm)]
    · have : (List.range ts.length)[i]? = none := by simp; omega
      rw [this]; rfl
theorem wsA_get {ad : Nat → Nat} {cA : Nat → ClassId} {σ : AS} {k : Nat} {s : Nat × Nat} (h : sh[k]? = some s) : (wsA ad cA σ)[k]? = some (ad k, cellA ad cA σ k s) := by
  have hk : k < nC := by rw [← sh_len]; exact (List.getElem?_eq_some_iff.mp h).1
  have e : sh.getD k (0, 0) = s := by rw [List.getD_eq_getElem?_getD, h]; rfl
  unfold wsA
  rw [List.getElem?_map, List.getElem?_range hk]
  simp [h]
theorem wsA_set {ad : Nat → Nat} {cA : Nat → ClassId} {σ σ' : AS} {k : Nat} {s : Nat × Nat} {x : va_E} (h : sh[k]? = some s) (h1 : cellA ad cA σ' k s = x) (h2 : ∀ i, i ≠ k → ∀ s, cellA ad cA σ' i s = cellA ad cA σ i s) : (wsA ad cA σ).set k (ad k, x) = wsA ad cA σ' := by
  have hk : k < nC := by rw [← sh_len]; exact (List.getElem?_eq_some_iff.mp h).1
  have e : sh.getD k (0, 0) = s := by rw [List.getD_eq_getElem?_getD, h]; rfl
  unfold wsA
  apply List.ext_getElem?
  intro i
  rw [List.getElem?_set]
  by_cases hij : k = i
  · subst hij
    rw [if_pos rfl, List.getElem?_map, List.getElem?_range hk]
    simp only [Option.map_some, e, h1]
    simp [hk]
  · rw [if_neg hij, List.getElem?_map, List.getElem?_map]
    by_cases hi : i < nC
    · rw [List.getElem?_range hi]
      simp [h2 i (fun q => hij q.symm)]
    · have : (List.range nC)[i]? = none := by simp; omega
      rw [this]; rfl
theorem wsA_D {ad : Nat → Nat} {cA : Nat → ClassId} {σ : AS} (hi : ∀ i j, i < nC → j < nC → ad i = ad j → i = j) : va_D (oA ad) (wsA ad cA σ) := by
  have at' : ∀ (k : Nat) (q : Nat × va_E), (wsA ad cA σ)[k]? = some q → k < nC ∧ q.1 = ad k := by
    intro k q h
    unfold wsA at h
    rw [List.getElem?_map] at h
    by_cases hk : k < nC
    · rw [List.getElem?_range hk] at h
      refine ⟨hk, ?_⟩
      have := Option.some.inj h
      rw [← this]
    · have : (List.range nC)[k]? = none := by simp; omega
      rw [this] at h; cases h
  refine ⟨fun i j p q hp hq e => ?_, fun k q h => ?_⟩
  · obtain ⟨a1, a2⟩ := at' i p hp
    obtain ⟨b1, b2⟩ := at' j q hq
    exact hi i j a1 b1 (by rw [← a2, ← b2]; exact e)
  · obtain ⟨a1, a2⟩ := at' k q h
    exact ⟨k, a1, a2.symm⟩
theorem cellA_sI {ad : Nat → Nat} {cA : Nat → ClassId} {σ : AS} {k : Nat} {f : Nat → Int32} : ∀ i, i ≠ k → ∀ s, cellA ad cA (sI σ k f) i s = cellA ad cA σ i s := by
  intro i hi s
  have h : (sI σ k f).1 i = σ.1 i := by unfold sI; exact if_neg hi
  have h' : ∀ t j, fV ad (sI σ k f) i t j = fV ad σ i t j := by
    intro t j
    match t with
    | 0 => show Value.int _ = Value.int _; rw [h]
    | 1 => rfl
    | t + 2 => rfl
  obtain ⟨a, b⟩ := s
  match a with
  | 0 => show Sum.inr _ = Sum.inr _; congr 2; unfold objV; simp only [h']
  | 1 => show Sum.inl _ = Sum.inl _; rw [h]
  | 2 => show Sum.inl _ = Sum.inl _; rw [h]
  | 3 => rfl
  | t + 4 => rfl
theorem cellA_sL {ad : Nat → Nat} {cA : Nat → ClassId} {σ : AS} {k : Nat} {f : Nat → Int64} : ∀ i, i ≠ k → ∀ s, cellA ad cA (sL σ k f) i s = cellA ad cA σ i s := by
  intro i hi s
  have h : (sL σ k f).2.1 i = σ.2.1 i := by unfold sL; exact if_neg hi
  have h' : ∀ t j, fV ad (sL σ k f) i t j = fV ad σ i t j := by
    intro t j
    match t with
    | 0 => rfl
    | 1 => show Value.long _ = Value.long _; rw [h]
    | t + 2 => rfl
  obtain ⟨a, b⟩ := s
  match a with
  | 0 => show Sum.inr _ = Sum.inr _; congr 2; unfold objV; simp only [h']
  | 1 => rfl
  | 2 => rfl
  | 3 => show Sum.inl _ = Sum.inl _; rw [h]
  | t + 4 => rfl
theorem cellA_sR {ad : Nat → Nat} {cA : Nat → ClassId} {σ : AS} {k : Nat} {f : Nat → Option Nat} : ∀ i, i ≠ k → ∀ s, cellA ad cA (sR σ k f) i s = cellA ad cA σ i s := by
  intro i hi s
  have h : (sR σ k f).2.2 i = σ.2.2 i := by unfold sR; exact if_neg hi
  have h' : ∀ t j, fV ad (sR σ k f) i t j = fV ad σ i t j := by
    intro t j
    match t with
    | 0 => rfl
    | 1 => rfl
    | t + 2 => show va_rf _ = va_rf _; rw [h]
  obtain ⟨a, b⟩ := s
  match a with
  | 0 => show Sum.inr _ = Sum.inr _; congr 2; unfold objV; simp only [h']
  | 1 => rfl
  | 2 => rfl
  | 3 => rfl
  | t + 4 => show Sum.inl _ = Sum.inl _; rw [h]
/-! constants of the start: static arrays, Strings -/
def stN (j : Nat) : String := ["SKY_UNTOLD", "SKY_LOWEST", "SKY_HIGHEST", "POND_UNTOLD", "POND_LOWEST", "POND_HIGHEST", "PIPE_UNTOLD", "PIPE_LOWEST", "PIPE_HIGHEST"].getD j ""
def stV (j : Nat) : List Int32 := [[0, 1, 5], [0, 0, 0], [9, 9, 9], [30, 60, 0, 10, 0, 50, 25, 0, 0], [0, 1, 0, 0, 0, 0, 0, 0, 0], [99, 99, 9, 99, 9, 99, 99, 99, 9], [0, 1, 3, 0, 0], [0, 0, 1, 0, 0], [6, 6, 9, 99, 1]].getD j []
def stI (j : Nat) : Nat := [54, 72, 75, 82, 85, 88, 91, 94, 97].getD j 0
def strT (i : Nat) : String × Nat × String := [("PondRoofs$Town", 9, "rdm"), ("PondRoofs$Town", 23, "wcbneklfg"), ("PondRoofs$Town", 30, "abmho"), ("PondRoofs$Law", 15, "dmwhlt"), ("PondRoofs$LawReader", 82, "dmwhlt"), ("PondRoofs$Plan", 48, "ocdw"), ("PondRoofsModel", 26, "y"), ("PondRoofsModel", 32, "dmwhlt"), ("PondRoofsModel", 251, "rdm"), ("PondRoofsModel", 257, "wcbneklfg"), ("PondRoofsModel", 259, "abmho"), ("PondRoofsModel", 267, "ocdw")].getD i ("", 0, "")
def strB (i : Nat) : List Int32 := (strT i).2.2.toList.map (fun c => Int32.ofNat c.toNat)
/-- what stays as it is at the start -/
def Cx (D : va_G) (cA ad : Nat → Nat) (U : State) (H : Heap) : Prop :=
  va_K D cls (tysA cA) U ∧ (∀ i j, i < nC → j < nC → ad i = ad j → i = j)
  ∧ (∀ j, j < 9 → va_Nw (.fieldLinkNest "PondRoofs$Town" (stI j) "PondRoofs" (stN j) "[I" "PondRoofs") U ∧ va_Z "PondRoofs" (stN j) "[I" (.ref (ad (1000 + j))) (oA ad) U H ∧ va_X (ad (1000 + j)) (stV j).length (fun i => (stV j).getD i 0) U H ∧ ¬ oA ad (ad (1000 + j)))
  ∧ (∀ i, i < 12 → vk_R (strT i).1 (strT i).2.1 (strT i).2.2 (ad (2000 + i)) U ∧ va_O "java/lang/String" (ad (2000 + i)) (oA ad) U H ∧ va_OF "java/lang/String" "coder" "B" (.int 0) (ad (2000 + i)) (oA ad) U H ∧ va_OF "java/lang/String" "value" "[B" (.ref (ad (3000 + i))) (ad (2000 + i)) (oA ad) U H ∧ va_T .byte (ad (3000 + i)) (strB i).length (fun j => .int ((strB i).getD j 0)) (oA ad) U H)
  ∧ va_Z "java/lang/String" "COMPACT_STRINGS" "Z" (.int 1) (oA ad) U H
  ∧ (va_Z "jdk/internal/util/Preconditions" "SIOOBE_FORMATTER" "Ljava/util/function/BiFunction;" .null (oA ad) U H ∨ va_Z "jdk/internal/util/Preconditions" "SIOOBE_FORMATTER" "Ljava/util/function/BiFunction;" (.ref (ad 4000)) (oA ad) U H)
theorem Cx.warm {D : va_G} {cA ad : Nat → Nat} {s U : State} {H : Heap} (hW : s.WarmedH U.vm) (h : Cx D cA ad s H) : Cx D cA ad U H := by
  obtain ⟨h1, h2, h3, h4, h5, h6⟩ := h
  refine ⟨va_K.moved hW.alike h1, h2, fun j hj => ?_, fun i hi => ?_, va_Z.moved hW.alike h5, h6.imp (va_Z.moved hW.alike) (va_Z.moved hW.alike)⟩
  · obtain ⟨a, b, c, c'⟩ := h3 j hj
    exact ⟨va_Nw.warmF hW a, va_Z.moved hW.alike b, va_X.moved hW.alike c, c'⟩
  · obtain ⟨a, b, c, d, e⟩ := h4 i hi
    exact ⟨vk_R.warm hW a, va_O.moved hW.alike b, va_OF.moved hW.alike c, va_OF.moved hW.alike d, va_T.moved hW.alike e⟩
theorem Cx.same {D : va_G} {cA ad : Nat → Nat} {u U : State} {H : Heap} (hv : U.vm = u.vm) (h : Cx D cA ad u H) : Cx D cA ad U H := by
  have ha : u.vm.Alike U.vm := by rw [hv]; exact Vm.Alike.refl u.vm
  obtain ⟨h1, h2, h3, h4, h5, h6⟩ := h
  refine ⟨va_K.moved ha h1, h2, fun j hj => ?_, fun i hi => ?_, va_Z.moved ha h5, h6.imp (va_Z.moved ha) (va_Z.moved ha)⟩
  · obtain ⟨a, b, c, c'⟩ := h3 j hj
    exact ⟨va_tabs rfl hv.symm a, va_Z.moved ha b, va_X.moved ha c, c'⟩
  · obtain ⟨a, b, c, d, e⟩ := h4 i hi
    exact ⟨vk_R.same hv a, va_O.moved ha b, va_OF.moved ha c, va_OF.moved ha d, va_T.moved ha e⟩
theorem Cx.kept {D : va_G} {cA ad : Nat → Nat} {U : State} {H H1 : Heap} (h : Cx D cA ad U H) (hq : ∀ a : Nat, a < H.size → ¬ oA ad a → H1[a]? = H[a]?) : Cx D cA ad U H1 := by
  obtain ⟨h1, h2, h3, h4, h5, h6⟩ := h
  refine ⟨h1, h2, fun j hj => ?_, fun i hi => ?_, h5.kept hq, h6.imp (fun h => h.kept hq) (fun h => h.kept hq)⟩
  · obtain ⟨a, b, c, c'⟩ := h3 j hj
    exact ⟨a, b.kept hq, c.kept (hq _ (Array.getElem?_eq_some_iff.mp c.choose_spec.1).1 c'), c'⟩
  · obtain ⟨a, b, c, d, e⟩ := h4 i hi
    exact ⟨a, b.kept hq, c.kept hq, d.kept hq, e.kept hq⟩
