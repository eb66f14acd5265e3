/-! rules of String constants (2000 + i) and their bytes (3000 + i) -/
section GO17
variable {l : Launch} {D : va_G} {cA ad : Nat → Nat} {d : Nat} {M : Mt} {pc : Nat} {lv st : List Value} {σ : AS} {K : Option Value → AS → Prop}
theorem go_sval {i index : Nat} (hi : i < 12) (hw : Cond.fieldLink M.1.cls index "java/lang/String" "value" "[B" ∈ tb) (hd : decode M.2.1 pc = .ok (.getfield index, 3)) (kk : Go l D cA ad d M (pc + 3) lv (.ref (3000 + i) :: st) σ K) : Go l D cA ad d M pc lv (.ref (2000 + i) :: st) σ K := by
  intro p e s m args below meth c s₁ B hml hC H locs ls hP hS hl
  have hts := atoms_spec (ws := wsM M) B.pre
  have hown : s.vm.findClass M.1.cls = some m.cls := findClass_of_methodNamed B.named
  exact vk_getf B.exec B.bytes (hC.2.2.2.1 i hi).2.2.2.1 hS hown (hts _ (List.mem_cons_of_mem _ hw)) (fun _ h => h) hd (kk p e s m args below meth c s₁ B hml hC H locs ls hP hS hl)
theorem go_scod {i index : Nat} (hi : i < 12) (hw : Cond.fieldLink M.1.cls index "java/lang/String" "coder" "B" ∈ tb) (hd : decode M.2.1 pc = .ok (.getfield index, 3)) (kk : Go l D cA ad d M (pc + 3) lv (.int (iI 0) :: st) σ K) : Go l D cA ad d M pc lv (.ref (2000 + i) :: st) σ K := by
  intro p e s m args below meth c s₁ B hml hC H locs ls hP hS hl
  have hts := atoms_spec (ws := wsM M) B.pre
  have hown : s.vm.findClass M.1.cls = some m.cls := findClass_of_methodNamed B.named
  exact vk_getf B.exec B.bytes (hC.2.2.2.1 i hi).2.2.1 hS hown (hts _ (List.mem_cons_of_mem _ hw)) (fun _ h => h) hd (kk p e s m args below meth c s₁ B hml hC H locs ls hP hS hl)
theorem go_scomp {index : Nat} (hw : Cond.fieldLink M.1.cls index "java/lang/String" "COMPACT_STRINGS" "Z" ∈ tb) (hd : decode M.2.1 pc = .ok (.getstatic index, 3)) (kk : Go l D cA ad d M (pc + 3) lv (.int (iI 1) :: st) σ K) : Go l D cA ad d M pc lv st σ K := by
  intro p e s m args below meth c s₁ B hml hC H locs ls hP hS hl
  have hts := atoms_spec (ws := wsM M) B.pre
  have hown : s.vm.findClass M.1.cls = some m.cls := findClass_of_methodNamed B.named
  exact va_gets B.exec B.bytes hC.2.2.2.2.1 hS hown (hts _ (List.mem_cons_of_mem _ hw)) (fun _ h => h) hd (kk p e s m args below meth c s₁ B hml hC H locs ls hP hS hl)
theorem go_sfmt {index : Nat} (hw : Cond.fieldLink M.1.cls index "jdk/internal/util/Preconditions" "SIOOBE_FORMATTER" "Ljava/util/function/BiFunction;" ∈ tb) (hd : decode M.2.1 pc = .ok (.getstatic index, 3)) (kk : ∀ v, v = .null ∨ v = .ref 4000 → Go l D cA ad d M (pc + 3) lv (v :: st) σ K) : Go l D cA ad d M pc lv st σ K := by
  intro p e s m args below meth c s₁ B hml hC H locs ls hP hS hl
  have hts := atoms_spec (ws := wsM M) B.pre
  have hown : s.vm.findClass M.1.cls = some m.cls := findClass_of_methodNamed B.named
  rcases hC.2.2.2.2.2 with h | h
  · exact va_gets B.exec B.bytes h hS hown (hts _ (List.mem_cons_of_mem _ hw)) (fun _ h => h) hd (kk .null (Or.inl rfl) p e s m args below meth c s₁ B hml hC H locs ls hP hS hl)
  · exact va_gets B.exec B.bytes h hS hown (hts _ (List.mem_cons_of_mem _ hw)) (fun _ h => h) hd (kk (.ref 4000) (Or.inr rfl) p e s m args below meth c s₁ B hml hC H locs ls hP hS hl)
theorem go_slen {i : Nat} (hi : i < 12) (hd : decode M.2.1 pc = .ok (.arraylength, 1)) (kk : Go l D cA ad d M (pc + 1) lv (.int (iI (strB i).length) :: st) σ K) : Go l D cA ad d M pc lv (.ref (3000 + i) :: st) σ K := by
  intro p e s m args below meth c s₁ B hml hC H locs ls hP hS hl
  exact va_tlen B.exec B.bytes (hC.2.2.2.1 i hi).2.2.2.2 hS (iI_ofNat _) hd (kk p e s m args below meth c s₁ B hml hC H locs ls hP hS hl)
theorem go_sb {i : Nat} {j : Int32} (hi : i < 12) (hd : decode M.2.1 pc = .ok (.baload, 1)) (hj : vp_in j (strB i).length) (kk : Go l D cA ad d M (pc + 1) lv (.int ((strB i).getD j.toNatClampNeg 0) :: st) σ K) : Go l D cA ad d M pc lv (.int j :: .ref (3000 + i) :: st) σ K := by
  intro p e s m args below meth c s₁ B hml hC H locs ls hP hS hl
  exact va_tb B.exec B.bytes (hC.2.2.2.1 i hi).2.2.2.2 hS hj rfl hd (kk p e s m args below meth c s₁ B hml hC H locs ls hP hS hl)
theorem go_callVs {M' : Mt} {index n i : Nat} {as st0 rest : List Value} (hi : i < 12) (hc : cV M.1.cls index M' n) (hq : M'.1.cls = "java/lang/String") (hd : decode M.2.1 pc = .ok (.invokevirtual index, 3)) (hst : st0 = as.reverse ++ .ref (2000 + i) :: rest) (hn : as.length = n) (h8 : (rest.map fun v => v.category).sum ≤ 8)
    (kk : Call l D cA ad d M' (.ref (2000 + i) :: as) σ (fun r σ' => Go l D cA ad (d + 1) M (pc + 3) lv (r.toList ++ rest) σ' K)) : Go l D cA ad (d + 1) M pc lv st0 σ K := by
  intro p e s m args below meth c s₁ B hml hC H locs ls hP hS hl
  have hts := atoms_spec (ws := wsM M) B.pre
  have hown : s.vm.findClass M.1.cls = some m.cls := findClass_of_methodNamed B.named
  have hrec : ∃ cell : Cell, H[ad (2000 + i)]? = some cell ∧ cell.vm.isStatics = false ∧ s.vm.findClass M'.1.cls = some cell.cls := by
    obtain ⟨cell, h1, h2, h3, -⟩ := ((hC.2.2.2.1 i hi).2.1).kept hS.2.1
    exact ⟨cell, h1, h2, by rw [hq]; exact h3⟩
  refine W_run (va_runV (C := M'.1.cls) (b := ad (2000 + i)) (As := as.map (cv ad)) (rest := rest.map (cv ad)) ⟨B.exec, B.bytes, hml, hown, hts⟩ kk ⟨cB_of (p := p) (e := e) (m := m) hts hc.1, hts _ (List.mem_cons_of_mem _ hc.2.1), hts _ (List.mem_cons_of_mem _ hc.2.2)⟩ ⟨Pk_blind, hrec, fun U hU hW => ⟨rfl, by rw [hU]; exact hP, by rw [hU]; exact (hC.warm hW).kept hS.2.1⟩⟩ rfl (by rw [List.length_map]; exact hn) hl.1 (by subst hst; show List.map _ _ = _; rw [List.map_append, List.map_reverse]; rfl) (lv_room (by rw [cv_cats]; exact h8)) hd ⟨Nat.le_refl 0, Nat.le_refl 0⟩) hS (fun r σ' H1 locs1 hk hP1 hS1 => ?_)
  have := hk p e s m args below meth c s₁ B hml hC H1 locs1 ls hP1 hS1 hl
  cases r <;> exact this
end GO17
