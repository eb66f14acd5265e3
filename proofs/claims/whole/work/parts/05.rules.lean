/-! rules of fields, arrays, calls and returns -/
theorem cls_in : ∀ q ∈ cls, ∀ w ∈ u_ws q.1 q.2.1 q.2.2, w ∈ tb := by decide +kernel
theorem cls_in' {M : Mt} {ci : Nat} {q : vw_C} (h : cls[ci]? = some q) : ∀ w ∈ u_ws q.1 q.2.1 q.2.2, w ∈ wsM M := fun w hw => List.mem_cons_of_mem _ (cls_in q (List.mem_of_getElem? h) w hw)
theorem cls_ty {ci : Nat} {q : vw_C} (h : cls[ci]? = some q) : (∀ k, k < q.2.2 → parseFieldDescriptor (q.2.1 k).2.2.1 = some (tyf ci k)) ∧ (∀ a, a < q.2.2 → ∀ b, b < q.2.2 → a ≠ b → (q.2.1 a).2.1 ≠ (q.2.1 b).2.1) := by
  match ci, h with
  | 0, h => cases h; exact ⟨tyX0_ok, nmX0⟩
  | 1, h => cases h; exact ⟨tyX1_ok, nmX1⟩
  | 2, h => cases h; exact ⟨tyX2_ok, nmX2⟩
  | 3, h => cases h; exact ⟨tyX3_ok, nmX3⟩
  | 4, h => cases h; exact ⟨tyX4_ok, nmX4⟩
  | 5, h => cases h; exact ⟨tyX5_ok, nmX5⟩
  | 6, h => cases h; exact ⟨tyX6_ok, nmX6⟩
  | 7, h => cases h; exact ⟨tyX7_ok, nmX7⟩
  | 8, h => cases h; exact ⟨tyX8_ok, nmX8⟩
  | 9, h => cases h; exact ⟨tyX9_ok, nmX9⟩
  | 10, h => cases h; exact ⟨tyX10_ok, nmX10⟩
  | 11, h => cases h; exact ⟨tyX11_ok, nmX11⟩
  | 12, h => cases h; exact ⟨tyX12_ok, nmX12⟩
  | n + 13, h => simp at h
/-- the link at 'index' of the class 'own' is field j, of kind t, of class ci -/
def fOK (own : String) (index ci j t : Nat) : Prop := ∃ q : vw_C, cls[ci]? = some q ∧ j < q.2.2 ∧ Cond.fieldLink own index (q.2.1 j).1 (q.2.1 j).2.1 (q.2.1 j).2.2.1 ∈ tb ∧ (fk ci)[j]? = some t
def fin (ci j : Nat) : Bool := match cls[ci]? with
  | some q => (q.2.1 j).2.2.2
  | none => true
theorem fin_spec {ci j : Nat} {q : vw_C} (h : cls[ci]? = some q) (hf : fin ci j = false) : (q.2.1 j).2.2.2 = false := by
  unfold fin at hf
  rw [h] at hf
  exact hf
section GO5
variable {l : Launch} {D : va_G} {cA ad : Nat → Nat} {d : Nat} {M : Mt} {pc : Nat} {lv st : List Value} {σ : AS} {K : Option Value → AS → Prop}
theorem go_getI {index ci j k : Nat} (hf : fOK M.1.cls index ci j 0) (hd : decode M.2.1 pc = .ok (.getfield index, 3)) (hs : sh[k]? = some (0, ci)) (kk : Go l D cA ad d M (pc + 3) lv (.int (σ.1 k j) :: st) σ K) : Go l D cA ad d M pc lv (.ref k :: st) σ K := by
  intro p e s m args below meth c s₁ B hml hC H locs ls hP hS hl
  have hts := atoms_spec (ws := wsM M) B.pre
  have hown : s.vm.findClass M.1.cls = some m.cls := findClass_of_methodNamed B.named
  obtain ⟨q, h1, h2, h3, h4⟩ := hf
  exact va_get (D := D) (C := q.1) (T := q.2.1) (N := q.2.2) (ci := ci) B.exec B.bytes hts (cls_in' h1) hown hC.1 hP k (wsA_get hs) h1 j h2 (hts _ (List.mem_cons_of_mem _ h3)) (fun _ h => h) (objV_get h4) hd (kk p e s m args below meth c s₁ B hml hC H locs ls hP hS hl)
theorem go_getL {index ci j k : Nat} (hf : fOK M.1.cls index ci j 1) (hd : decode M.2.1 pc = .ok (.getfield index, 3)) (hs : sh[k]? = some (0, ci)) (kk : Go l D cA ad d M (pc + 3) lv (.long (σ.2.1 k j) :: st) σ K) : Go l D cA ad d M pc lv (.ref k :: st) σ K := by
  intro p e s m args below meth c s₁ B hml hC H locs ls hP hS hl
  have hts := atoms_spec (ws := wsM M) B.pre
  have hown : s.vm.findClass M.1.cls = some m.cls := findClass_of_methodNamed B.named
  obtain ⟨q, h1, h2, h3, h4⟩ := hf
  exact va_get (D := D) (C := q.1) (T := q.2.1) (N := q.2.2) (ci := ci) B.exec B.bytes hts (cls_in' h1) hown hC.1 hP k (wsA_get hs) h1 j h2 (hts _ (List.mem_cons_of_mem _ h3)) (fun _ h => h) (objV_get h4) hd (kk p e s m args below meth c s₁ B hml hC H locs ls hP hS hl)
theorem go_getR {index ci j k a : Nat} (hf : fOK M.1.cls index ci j 2) (hd : decode M.2.1 pc = .ok (.getfield index, 3)) (hs : sh[k]? = some (0, ci)) (hr : σ.2.2 k j = some a) (kk : Go l D cA ad d M (pc + 3) lv (.ref a :: st) σ K) : Go l D cA ad d M pc lv (.ref k :: st) σ K := by
  intro p e s m args below meth c s₁ B hml hC H locs ls hP hS hl
  have hts := atoms_spec (ws := wsM M) B.pre
  have hown : s.vm.findClass M.1.cls = some m.cls := findClass_of_methodNamed B.named
  obtain ⟨q, h1, h2, h3, h4⟩ := hf
  have hv := objV_get (ad := ad) (σ := σ) (k := k) h4
  rw [show fV ad σ k 2 j = Value.ref (ad a) by show va_rf _ = _; rw [hr]; rfl] at hv
  exact va_get (D := D) (C := q.1) (T := q.2.1) (N := q.2.2) (ci := ci) B.exec B.bytes hts (cls_in' h1) hown hC.1 hP k (wsA_get hs) h1 j h2 (hts _ (List.mem_cons_of_mem _ h3)) (fun _ h => h) hv hd (kk p e s m args below meth c s₁ B hml hC H locs ls hP hS hl)
theorem go_putI {index ci j k : Nat} {x : Int32} (hf : fOK M.1.cls index ci j 0) (hw : fin ci j = false) (hd : decode M.2.1 pc = .ok (.putfield index, 3)) (hs : sh[k]? = some (0, ci)) (hz : narrow (tyf ci j) (.int x) = .int x) (hft : fits (tyf ci j) (.int x) = true) (kk : Go l D cA ad d M (pc + 3) lv st (sI σ k (upd (σ.1 k) j x)) K) : Go l D cA ad d M pc lv (.int x :: .ref k :: st) σ K := by
  intro p e s m args below meth c s₁ B hml hC H locs ls hP hS hl
  have hts := atoms_spec (ws := wsM M) B.pre
  have hown : s.vm.findClass M.1.cls = some m.cls := findClass_of_methodNamed B.named
  obtain ⟨q, h1, h2, h3, h4⟩ := hf
  have hE : (wsA ad cA σ).set k (ad k, .inr (ci, (objV ad σ k (fk ci)).set j (.int x))) = wsA ad cA (sI σ k (upd (σ.1 k) j x)) := wsA_set hs (by show Sum.inr _ = Sum.inr _; rw [objV_set (σ' := sI σ k (upd (σ.1 k) j x)) h4 (by show Value.int _ = Value.int _; simp [sI, upd]) (fun i hi t => by match t with | 0 => (show Value.int _ = Value.int _; simp [sI, upd, hi]) | 1 => rfl | t + 2 => rfl)]) cellA_sI
  refine va_put (D := D) (C := q.1) (T := q.2.1) (N := q.2.2) (ci := ci) (v := .int x) (ty := tyf ci j) B.exec B.bytes hts (cls_in' h1) (tyf ci) (cls_ty h1).1 (cls_ty h1).2 hown hC.1 hP (wsA_D hC.2.1) hS k (wsA_get hs) h1 j h2 (hts _ (List.mem_cons_of_mem _ h3)) (fun _ h => h) (fin_spec h1 hw) ((cls_ty h1).1 j h2) hz hft (List.getElem?_eq_some_iff.mp (objV_get (ad := ad) (σ := σ) (k := k) h4)).1 hd (fun H1 locs1 hP1 hD1 hS1 => ?_)
  rw [hE] at hP1
  exact kk p e s m args below meth c s₁ B hml hC H1 locs1 ls hP1 hS1 hl
theorem go_putL {index ci j k : Nat} {x : Int64} (hf : fOK M.1.cls index ci j 1) (hw : fin ci j = false) (hd : decode M.2.1 pc = .ok (.putfield index, 3)) (hs : sh[k]? = some (0, ci)) (hz : narrow (tyf ci j) (.long x) = .long x) (hft : fits (tyf ci j) (.long x) = true) (kk : Go l D cA ad d M (pc + 3) lv st (sL σ k (vp_updL (σ.2.1 k) j x)) K) : Go l D cA ad d M pc lv (.long x :: .ref k :: st) σ K := by
  intro p e s m args below meth c s₁ B hml hC H locs ls hP hS hl
  have hts := atoms_spec (ws := wsM M) B.pre
  have hown : s.vm.findClass M.1.cls = some m.cls := findClass_of_methodNamed B.named
  obtain ⟨q, h1, h2, h3, h4⟩ := hf
  have hE : (wsA ad cA σ).set k (ad k, .inr (ci, (objV ad σ k (fk ci)).set j (.long x))) = wsA ad cA (sL σ k (vp_updL (σ.2.1 k) j x)) := wsA_set hs (by show Sum.inr _ = Sum.inr _; rw [objV_set (σ' := sL σ k (vp_updL (σ.2.1 k) j x)) h4 (by show Value.long _ = Value.long _; simp [sL, vp_updL]) (fun i hi t => by match t with | 0 => rfl | 1 => (show Value.long _ = Value.long _; simp [sL, vp_updL, hi]) | t + 2 => rfl)]) cellA_sL
  refine va_put (D := D) (C := q.1) (T := q.2.1) (N := q.2.2) (ci := ci) (v := .long x) (ty := tyf ci j) B.exec B.bytes hts (cls_in' h1) (tyf ci) (cls_ty h1).1 (cls_ty h1).2 hown hC.1 hP (wsA_D hC.2.1) hS k (wsA_get hs) h1 j h2 (hts _ (List.mem_cons_of_mem _ h3)) (fun _ h => h) (fin_spec h1 hw) ((cls_ty h1).1 j h2) hz hft (List.getElem?_eq_some_iff.mp (objV_get (ad := ad) (σ := σ) (k := k) h4)).1 hd (fun H1 locs1 hP1 hD1 hS1 => ?_)
  rw [hE] at hP1
  exact kk p e s m args below meth c s₁ B hml hC H1 locs1 ls hP1 hS1 hl
theorem go_putR {index ci j k : Nat} {x : Nat} (hf : fOK M.1.cls index ci j 2) (hw : fin ci j = false) (hd : decode M.2.1 pc = .ok (.putfield index, 3)) (hs : sh[k]? = some (0, ci)) (hz : ∀ a, narrow (tyf ci j) (.ref a) = .ref a) (hft : ∀ a, fits (tyf ci j) (.ref a) = true) (kk : Go l D cA ad d M (pc + 3) lv st (sR σ k (va_up (σ.2.2 k) j (some x))) K) : Go l D cA ad d M pc lv (.ref x :: .ref k :: st) σ K := by
  intro p e s m args below meth c s₁ B hml hC H locs ls hP hS hl
  have hts := atoms_spec (ws := wsM M) B.pre
  have hown : s.vm.findClass M.1.cls = some m.cls := findClass_of_methodNamed B.named
  obtain ⟨q, h1, h2, h3, h4⟩ := hf
  have hE : (wsA ad cA σ).set k (ad k, .inr (ci, (objV ad σ k (fk ci)).set j (.ref (ad x)))) = wsA ad cA (sR σ k (va_up (σ.2.2 k) j (some x))) := wsA_set hs (by show Sum.inr _ = Sum.inr _; rw [objV_set (σ' := sR σ k (va_up (σ.2.2 k) j (some x))) h4 (by show va_rf _ = _; simp [sR, va_up, va_rf]) (fun i hi t => by match t with | 0 => rfl | 1 => rfl | t + 2 => (show va_rf _ = va_rf _; simp [sR, va_up, hi]))]) cellA_sR
  refine va_put (D := D) (C := q.1) (T := q.2.1) (N := q.2.2) (ci := ci) (v := .ref (ad x)) (ty := tyf ci j) B.exec B.bytes hts (cls_in' h1) (tyf ci) (cls_ty h1).1 (cls_ty h1).2 hown hC.1 hP (wsA_D hC.2.1) hS k (wsA_get hs) h1 j h2 (hts _ (List.mem_cons_of_mem _ h3)) (fun _ h => h) (fin_spec h1 hw) ((cls_ty h1).1 j h2) (hz _) (hft _) (List.getElem?_eq_some_iff.mp (objV_get (ad := ad) (σ := σ) (k := k) h4)).1 hd (fun H1 locs1 hP1 hD1 hS1 => ?_)
  rw [hE] at hP1
  exact kk p e s m args below meth c s₁ B hml hC H1 locs1 ls hP1 hS1 hl
theorem go_iald {k n : Nat} {i : Int32} (hd : decode M.2.1 pc = .ok (.iaload, 1)) (hs : sh[k]? = some (1, n)) (hi : vp_in i n) (kk : Go l D cA ad d M (pc + 1) lv (.int (σ.1 k i.toNatClampNeg) :: st) σ K) : Go l D cA ad d M pc lv (.int i :: .ref k :: st) σ K := by
  intro p e s m args below meth c s₁ B hml hC H locs ls hP hS hl
  exact va_iald (D := D) B.exec B.bytes hC.1 hP k 0 (wsA_get hs) rfl hi hd (kk p e s m args below meth c s₁ B hml hC H locs ls hP hS hl)
theorem go_bald {k n : Nat} {i : Int32} (hd : decode M.2.1 pc = .ok (.baload, 1)) (hs : sh[k]? = some (2, n)) (hi : vp_in i n) (kk : Go l D cA ad d M (pc + 1) lv (.int (σ.1 k i.toNatClampNeg) :: st) σ K) : Go l D cA ad d M pc lv (.int i :: .ref k :: st) σ K := by
  intro p e s m args below meth c s₁ B hml hC H locs ls hP hS hl
  exact va_bald (D := D) B.exec B.bytes hC.1 hP k 1 (wsA_get hs) rfl hi hd (kk p e s m args below meth c s₁ B hml hC H locs ls hP hS hl)
theorem go_lald {k n : Nat} {i : Int32} (hd : decode M.2.1 pc = .ok (.laload, 1)) (hs : sh[k]? = some (3, n)) (hi : vp_in i n) (kk : Go l D cA ad d M (pc + 1) lv (.long (σ.2.1 k i.toNatClampNeg) :: st) σ K) : Go l D cA ad d M pc lv (.int i :: .ref k :: st) σ K := by
  intro p e s m args below meth c s₁ B hml hC H locs ls hP hS hl
  exact va_lald (D := D) B.exec B.bytes hC.1 hP k 2 (wsA_get hs) rfl hi hd (kk p e s m args below meth c s₁ B hml hC H locs ls hP hS hl)
theorem go_aald {k n a t : Nat} {i : Int32} (hd : decode M.2.1 pc = .ok (.aaload, 1)) (hs : sh[k]? = some (t + 4, n)) (ht : t < 3) (hi : vp_in i n) (hr : σ.2.2 k i.toNatClampNeg = some a) (kk : Go l D cA ad d M (pc + 1) lv (.ref a :: st) σ K) : Go l D cA ad d M pc lv (.int i :: .ref k :: st) σ K := by
  intro p e s m args below meth c s₁ B hml hC H locs ls hP hS hl
  have hlt : i.toNatClampNeg < n := Nat.not_le.mp fun q => hi (Or.inr q)
  have he : va_rf ((σ.2.2 k i.toNatClampNeg).map ad) = Value.ref (ad a) := by rw [hr]; rfl
  obtain ⟨ty, hty, hrf⟩ : ∃ ty, (tysA cA)[t + 3]? = some (cA (t + 3), ty) ∧ ty.isReference = true := by
    match t, ht with
    | 0, _ => exact ⟨_, rfl, rfl⟩
    | 1, _ => exact ⟨_, rfl, rfl⟩
    | 2, _ => exact ⟨_, rfl, rfl⟩
    | t + 3, h => omega
  refine W.aald (v := .ref (ad a)) (ty := ty) B.exec B.bytes (hP k _ (wsA_get hs)) ((hC.1.2 (t + 3) _ hty).1 n (fun j => va_rf ((σ.2.2 k j).map ad))) hrf (fun q => by cases q) (by show ¬ (i < 0 ∨ (arrV _ _ _).slots.size ≤ _); rw [arrV_size]; exact hi) (by show (arrV _ _ _).slots[_]? = _; rw [arrV_read _ _ hlt, he]) rfl rfl hd (kk p e s m args below meth c s₁ B hml hC H locs ls hP hS hl)
theorem go_iast {k n : Nat} {i : Int32} {x : Int32} (hd : decode M.2.1 pc = .ok (.iastore, 1)) (hs : sh[k]? = some (1, n)) (hi : vp_in i n) (kk : Go l D cA ad d M (pc + 1) lv st (sI σ k (upd (σ.1 k) i.toNatClampNeg x)) K) : Go l D cA ad d M pc lv (.int x :: .int i :: .ref k :: st) σ K := by
  intro p e s m args below meth c s₁ B hml hC H locs ls hP hS hl
  have hE : (wsA ad cA σ).set k (ad k, .inl (cA 0, n, .inl (upd (σ.1 k) i.toNatClampNeg x))) = wsA ad cA (sI σ k (upd (σ.1 k) i.toNatClampNeg x)) := wsA_set hs (by show Sum.inl _ = Sum.inl _; simp [sI, sL]) cellA_sI
  refine va_iast (D := D) B.exec B.bytes hC.1 hP (wsA_D hC.2.1) hS k 0 (wsA_get hs) rfl hi hd (fun H1 locs1 hP1 hD1 hS1 => ?_)
  rw [hE] at hP1
  exact kk p e s m args below meth c s₁ B hml hC H1 locs1 ls hP1 hS1 hl
theorem go_bast {k n : Nat} {i : Int32} {x : Int32} (hd : decode M.2.1 pc = .ok (.bastore, 1)) (hs : sh[k]? = some (2, n)) (hi : vp_in i n) (kk : Go l D cA ad d M (pc + 1) lv st (sI σ k (upd (σ.1 k) i.toNatClampNeg (vp_nar .byte x))) K) : Go l D cA ad d M pc lv (.int x :: .int i :: .ref k :: st) σ K := by
  intro p e s m args below meth c s₁ B hml hC H locs ls hP hS hl
  have hE : (wsA ad cA σ).set k (ad k, .inl (cA 1, n, .inl (upd (σ.1 k) i.toNatClampNeg (vp_nar .byte x)))) = wsA ad cA (sI σ k (upd (σ.1 k) i.toNatClampNeg (vp_nar .byte x))) := wsA_set hs (by show Sum.inl _ = Sum.inl _; simp [sI, sL]) cellA_sI
  refine va_bast (D := D) B.exec B.bytes hC.1 hP (wsA_D hC.2.1) hS k 1 (wsA_get hs) rfl hi hd (fun H1 locs1 hP1 hD1 hS1 => ?_)
  rw [hE] at hP1
  exact kk p e s m args below meth c s₁ B hml hC H1 locs1 ls hP1 hS1 hl
theorem go_last {k n : Nat} {i : Int32} {x : Int64} (hd : decode M.2.1 pc = .ok (.lastore, 1)) (hs : sh[k]? = some (3, n)) (hi : vp_in i n) (kk : Go l D cA ad d M (pc + 1) lv st (sL σ k (vp_updL (σ.2.1 k) i.toNatClampNeg x)) K) : Go l D cA ad d M pc lv (.long x :: .int i :: .ref k :: st) σ K := by
  intro p e s m args below meth c s₁ B hml hC H locs ls hP hS hl
  have hE : (wsA ad cA σ).set k (ad k, .inl (cA 2, n, .inr (.inl (vp_updL (σ.2.1 k) i.toNatClampNeg x)))) = wsA ad cA (sL σ k (vp_updL (σ.2.1 k) i.toNatClampNeg x)) := wsA_set hs (by show Sum.inl _ = Sum.inl _; simp [sI, sL]) cellA_sL
  refine va_last (D := D) B.exec B.bytes hC.1 hP (wsA_D hC.2.1) hS k 2 (wsA_get hs) rfl hi hd (fun H1 locs1 hP1 hD1 hS1 => ?_)
  rw [hE] at hP1
  exact kk p e s m args below meth c s₁ B hml hC H1 locs1 ls hP1 hS1 hl
theorem go_alen1 {k n : Nat} (hd : decode M.2.1 pc = .ok (.arraylength, 1)) (hs : sh[k]? = some (1, n)) (kk : Go l D cA ad d M (pc + 1) lv (.int (Int32.ofNat n) :: st) σ K) : Go l D cA ad d M pc lv (.ref k :: st) σ K := by
  intro p e s m args below meth c s₁ B hml hC H locs ls hP hS hl
  exact va_alen (D := D) B.exec B.bytes hC.1 hP k 0 (wsA_get hs) rfl rfl hd (kk p e s m args below meth c s₁ B hml hC H locs ls hP hS hl)
theorem go_alen2 {k n : Nat} (hd : decode M.2.1 pc = .ok (.arraylength, 1)) (hs : sh[k]? = some (2, n)) (kk : Go l D cA ad d M (pc + 1) lv (.int (Int32.ofNat n) :: st) σ K) : Go l D cA ad d M pc lv (.ref k :: st) σ K := by
  intro p e s m args below meth c s₁ B hml hC H locs ls hP hS hl
  exact va_alen (D := D) B.exec B.bytes hC.1 hP k 1 (wsA_get hs) rfl rfl hd (kk p e s m args below meth c s₁ B hml hC H locs ls hP hS hl)
theorem go_alen3 {k n : Nat} (hd : decode M.2.1 pc = .ok (.arraylength, 1)) (hs : sh[k]? = some (3, n)) (kk : Go l D cA ad d M (pc + 1) lv (.int (Int32.ofNat n) :: st) σ K) : Go l D cA ad d M pc lv (.ref k :: st) σ K := by
  intro p e s m args below meth c s₁ B hml hC H locs ls hP hS hl
  exact va_alen (D := D) B.exec B.bytes hC.1 hP k 2 (wsA_get hs) rfl rfl hd (kk p e s m args below meth c s₁ B hml hC H locs ls hP hS hl)
theorem go_gets {j : Nat} (hj : j < 9) (ho : M.1.cls = "PondRoofs$Town") (hd : decode M.2.1 pc = .ok (.getstatic (stI j), 3)) (kk : Go l D cA ad d M (pc + 3) lv (.ref (1000 + j) :: st) σ K) : Go l D cA ad d M pc lv st σ K := by
  intro p e s m args below meth c s₁ B hml hC H locs ls hP hS hl
  have hts := atoms_spec (ws := wsM M) B.pre
  have hown : s.vm.findClass M.1.cls = some m.cls := findClass_of_methodNamed B.named
  obtain ⟨h1, h2, h3⟩ := hC.2.2.1 j hj
  exact va_getsN B.exec B.bytes h2 hS hown (by rw [ho]; exact va_Nw.use rfl h1) (fun _ h => h) hd (kk p e s m args below meth c s₁ B hml hC H locs ls hP hS hl)
theorem go_ti {j : Nat} {i : Int32} (hj : j < 9) (hd : decode M.2.1 pc = .ok (.iaload, 1)) (hi : vp_in i (stV j).length) (kk : Go l D cA ad d M (pc + 1) lv (.int ((stV j).getD i.toNatClampNeg 0) :: st) σ K) : Go l D cA ad d M pc lv (.int i :: .ref (1000 + j) :: st) σ K := by
  intro p e s m args below meth c s₁ B hml hC H locs ls hP hS hl
  obtain ⟨tX, t7⟩ := (hC.2.2.1 j hj).2.2
  exact va_sld B.exec B.bytes tX (Array.getElem?_eq_some_iff.mp tX.choose_spec.1).1 t7 hS hi hd (kk p e s m args below meth c s₁ B hml hC H locs ls hP hS hl)
theorem go_tlen {j : Nat} (hj : j < 9) (hd : decode M.2.1 pc = .ok (.arraylength, 1)) (kk : Go l D cA ad d M (pc + 1) lv (.int (Int32.ofNat (stV j).length) :: st) σ K) : Go l D cA ad d M pc lv (.ref (1000 + j) :: st) σ K := by
  intro p e s m args below meth c s₁ B hml hC H locs ls hP hS hl
  obtain ⟨tX, t7⟩ := (hC.2.2.1 j hj).2.2
  exact va_slen B.exec B.bytes tX (Array.getElem?_eq_some_iff.mp tX.choose_spec.1).1 t7 hS hd (kk p e s m args below meth c s₁ B hml hC H locs ls hP hS hl)
theorem go_ldcS {i : Nat} (hi : i < 12) (ho : M.1.cls = (strT i).1) (hd : decode M.2.1 pc = .ok (.ldc (strT i).2.1, 2)) (kk : Go l D cA ad d M (pc + 2) lv (.ref (2000 + i) :: st) σ K) : Go l D cA ad d M pc lv st σ K := by
  intro p e s m args below meth c s₁ B hml hC H locs ls hP hS hl
  have hts := atoms_spec (ws := wsM M) B.pre
  have hown : s.vm.findClass M.1.cls = some m.cls := findClass_of_methodNamed B.named
  exact va_ldcS B.exec B.bytes (by rw [← ho]; exact hown) (hC.2.2.2.1 i hi).1 hd (kk p e s m args below meth c s₁ B hml hC H locs ls hP hS hl)
theorem go_ldc {index : Nat} {v : Int32} (hw : Jvm.Cond.constant M.1.cls index v ∈ tb) (hd : decode M.2.1 pc = .ok (.ldc index, 2)) (kk : Go l D cA ad d M (pc + 2) lv (.int v :: st) σ K) : Go l D cA ad d M pc lv st σ K := by
  intro p e s m args below meth c s₁ B hml hC H locs ls hP hS hl
  have hts := atoms_spec (ws := wsM M) B.pre
  have hown : s.vm.findClass M.1.cls = some m.cls := findClass_of_methodNamed B.named
  exact lv_ldc B.exec B.bytes hown (hts _ (List.mem_cons_of_mem _ hw)) hd (kk p e s m args below meth c s₁ B hml hC H locs ls hP hS hl)
theorem go_ldc2 {index : Nat} {v : Int64} (hw : Jvm.Cond.constantLong M.1.cls index v ∈ tb) (hd : decode M.2.1 pc = .ok (.ldc2_w index, 3)) (kk : Go l D cA ad d M (pc + 3) lv (.long v :: st) σ K) : Go l D cA ad d M pc lv st σ K := by
  intro p e s m args below meth c s₁ B hml hC H locs ls hP hS hl
  have hts := atoms_spec (ws := wsM M) B.pre
  have hown : s.vm.findClass M.1.cls = some m.cls := findClass_of_methodNamed B.named
  exact lv_ldc2 B.exec B.bytes hown (hts _ (List.mem_cons_of_mem _ hw)) hd (kk p e s m args below meth c s₁ B hml hC H locs ls hP hS hl)
theorem go_iret {x : Int32} {ty : FieldType} (hr : M.2.2.2 = some ty) (hn : narrow ty (.int x) = .int x) (hd : decode M.2.1 pc = .ok (.ireturn, 1)) (kk : K (some (.int x)) σ) : Go l D cA ad d M pc lv [.int x] σ K := by
  intro p e s m args below meth c s₁ B hml hC H locs ls hP hS hl
  have hlocks := B.notSynchronized
  exact W.zret B.exec B.bytes (B.returns.trans hr) hn (fun t ht hW => ⟨⟨some (.int x), σ, rfl, kk, by rw [ht]; exact hP⟩, hS.F ht⟩) hS.2.2 hd
theorem go_lret {x : Int64} (hr : M.2.2.2 = some .long) (hd : decode M.2.1 pc = .ok (.lreturn, 1)) (kk : K (some (.long x)) σ) : Go l D cA ad d M pc lv [.long x] σ K := by
  intro p e s m args below meth c s₁ B hml hC H locs ls hP hS hl
  have hlocks := B.notSynchronized
  exact W.lret B.exec B.bytes (B.returns.trans hr) (fun t ht hW => ⟨⟨some (.long x), σ, rfl, kk, by rw [ht]; exact hP⟩, hS.F ht⟩) hS.2.2 hd
theorem go_aret {x : Nat} {n : String} (hr : M.2.2.2 = some (.object n)) (hd : decode M.2.1 pc = .ok (.areturn, 1)) (kk : K (some (.ref x)) σ) : Go l D cA ad d M pc lv [.ref x] σ K := by
  intro p e s m args below meth c s₁ B hml hC H locs ls hP hS hl
  have hlocks := B.notSynchronized
  exact W.aret B.exec B.bytes (B.returns.trans hr) (Or.inl ⟨_, rfl⟩) (Or.inr ⟨_, rfl⟩) (fun t ht hW => ⟨⟨some (.ref x), σ, rfl, kk, by rw [ht]; exact hP⟩, hS.F ht⟩) hS.2.2 hd
theorem go_vret (hr : M.2.2.2 = none) (hd : decode M.2.1 pc = .ok (.return_, 1)) (kk : K none σ) : Go l D cA ad d M pc lv [] σ K := by
  intro p e s m args below meth c s₁ B hml hC H locs ls hP hS hl
  have hlocks := B.notSynchronized
  exact W.vret B.exec B.bytes (B.returns.trans hr) (fun t ht hW => ⟨⟨none, σ, rfl, kk, by rw [ht]; exact hP⟩, hS.F ht⟩) hS.2.2 hd
theorem go_tabIn {dflt lo hi : Int} {offs : Array Int} {len : Nat} {x : Int32} {off : Int} {tgt : Nat} (hd : decode M.2.1 pc = .ok (.tableswitch dflt lo hi offs, len)) (h1 : ¬ x.toInt < lo) (h2 : ¬ hi < x.toInt) (ho : offs[(x.toInt - lo).toNat]? = some off) (ht : (pc : Int) + off = (tgt : Int)) (kk : Go l D cA ad d M tgt lv st σ K) : Go l D cA ad d M pc lv (.int x :: st) σ K := by
  intro p e s m args below meth c s₁ B hml hC H locs ls hP hS hl
  exact lv_tableIn B.exec B.bytes hd h1 h2 ho ht (kk p e s m args below meth c s₁ B hml hC H locs ls hP hS hl)
theorem go_tabOut {dflt lo hi : Int} {offs : Array Int} {len : Nat} {x : Int32} {tgt : Nat} (hd : decode M.2.1 pc = .ok (.tableswitch dflt lo hi offs, len)) (h : x.toInt < lo ∨ hi < x.toInt) (ht : (pc : Int) + dflt = (tgt : Int)) (kk : Go l D cA ad d M tgt lv st σ K) : Go l D cA ad d M pc lv (.int x :: st) σ K := by
  intro p e s m args below meth c s₁ B hml hC H locs ls hP hS hl
  exact lv_tableOut B.exec B.bytes hd h ht (kk p e s m args below meth c s₁ B hml hC H locs ls hP hS hl)
theorem go_look {dflt : Int} {ps : Array (Int × Int)} {len : Nat} {x : Int32} {off : Int} {tgt : Nat} (hd : decode M.2.1 pc = .ok (.lookupswitch dflt ps, len)) (hp : (ps.toList.zip (ps.toList.drop 1)).all (fun (a, next) => a.1 < next.1) = true) (ho : Op.lookupswitch.offset ps.toList dflt x.toInt = off) (ht : (pc : Int) + off = (tgt : Int)) (kk : Go l D cA ad d M tgt lv st σ K) : Go l D cA ad d M pc lv (.int x :: st) σ K := by
  intro p e s m args below meth c s₁ B hml hC H locs ls hP hS hl
  exact lv_lookup B.exec B.bytes hd hp ho ht (kk p e s m args below meth c s₁ B hml hC H locs ls hP hS hl)
def mL (own : String) (index : Nat) (y : MethodName) (code : ByteArray) (n : Nat) (r : FieldType) : Prop := Cond.methodLink own index y ∈ tb ∧ Cond.static y ∈ tb ∧ Cond.initialized "java/lang/Math" ∈ tb ∧ Cond.code y code n (some r) ∈ tb
theorem sum_le8 {st : List Value} (h : (st.map fun v => v.category).sum ≤ 8) (ad : Nat → Nat) (d z : Nat) (hz : z ≤ 32) : ((st.map (cv ad)).map fun v => v.category).sum + z ≤ (rmD (d + 1)).locals := by
  rw [cv_cats]
  show _ ≤ 40 * (d + 1)
  omega
theorem go_min {index : Nat} {x y : Int32} (hw : mL M.1.cls index Lib.Math.min.name Lib.Math.min.code 2 .int) (hd : decode M.2.1 pc = .ok (.invokestatic index, 3)) (hc : (st.map fun v => v.category).sum ≤ 8) (kk : Go l D cA ad (d + 1) M (pc + 3) lv (.int (if y < x then y else x) :: st) σ K) : Go l D cA ad (d + 1) M pc lv (.int y :: .int x :: st) σ K := by
  intro p e s m args below meth c s₁ B hml hC H locs ls hP hS hl
  have hts := atoms_spec (ws := wsM M) B.pre
  have hown : s.vm.findClass M.1.cls = some m.cls := findClass_of_methodNamed B.named
  obtain ⟨h1, h2, h3, h4⟩ := hw
  exact va_mmin B.exec B.bytes (hml.trans hl.1.symm) hown (hts _ (List.mem_cons_of_mem _ h1)) (hts _ (List.mem_cons_of_mem _ h2)) (hts _ (List.mem_cons_of_mem _ h3)) (hts _ (List.mem_cons_of_mem _ h4)) (by show 1 ≤ d + 1; omega) (sum_le8 hc ad d 13 (by omega)) (Nat.le_refl 0) (Nat.le_refl 0) hd (kk p e s m args below meth c s₁ B hml hC H locs ls hP hS hl)
theorem go_max {index : Nat} {x y : Int32} (hw : mL M.1.cls index Lib.Math.max.name Lib.Math.max.code 2 .int) (hd : decode M.2.1 pc = .ok (.invokestatic index, 3)) (hc : (st.map fun v => v.category).sum ≤ 8) (kk : Go l D cA ad (d + 1) M (pc + 3) lv (.int (if x < y then y else x) :: st) σ K) : Go l D cA ad (d + 1) M pc lv (.int y :: .int x :: st) σ K := by
  intro p e s m args below meth c s₁ B hml hC H locs ls hP hS hl
  have hts := atoms_spec (ws := wsM M) B.pre
  have hown : s.vm.findClass M.1.cls = some m.cls := findClass_of_methodNamed B.named
  obtain ⟨h1, h2, h3, h4⟩ := hw
  exact va_mmax B.exec B.bytes (hml.trans hl.1.symm) hown (hts _ (List.mem_cons_of_mem _ h1)) (hts _ (List.mem_cons_of_mem _ h2)) (hts _ (List.mem_cons_of_mem _ h3)) (hts _ (List.mem_cons_of_mem _ h4)) (by show 1 ≤ d + 1; omega) (sum_le8 hc ad d 13 (by omega)) (Nat.le_refl 0) (Nat.le_refl 0) hd (kk p e s m args below meth c s₁ B hml hC H locs ls hP hS hl)
theorem go_abs {index : Nat} {x : Int32} (hw : mL M.1.cls index Lib.Math.abs.name Lib.Math.abs.code 1 .int) (hd : decode M.2.1 pc = .ok (.invokestatic index, 3)) (hc : (st.map fun v => v.category).sum ≤ 8) (kk : Go l D cA ad (d + 1) M (pc + 3) lv (.int (if 0 ≤ x then x else 0 - x) :: st) σ K) : Go l D cA ad (d + 1) M pc lv (.int x :: st) σ K := by
  intro p e s m args below meth c s₁ B hml hC H locs ls hP hS hl
  have hts := atoms_spec (ws := wsM M) B.pre
  have hown : s.vm.findClass M.1.cls = some m.cls := findClass_of_methodNamed B.named
  obtain ⟨h1, h2, h3, h4⟩ := hw
  exact va_mabs B.exec B.bytes (hml.trans hl.1.symm) hown (hts _ (List.mem_cons_of_mem _ h1)) (hts _ (List.mem_cons_of_mem _ h2)) (hts _ (List.mem_cons_of_mem _ h3)) (hts _ (List.mem_cons_of_mem _ h4)) (by show 1 ≤ d + 1; omega) (sum_le8 hc ad d 13 (by omega)) (Nat.le_refl 0) (Nat.le_refl 0) hd (kk p e s m args below meth c s₁ B hml hC H locs ls hP hS hl)
theorem go_minL {index : Nat} {x y : Int64} (hw : mL M.1.cls index Lib.MathLoose.min_long.x Lib.MathLoose.min_long.code 4 .long) (hd : decode M.2.1 pc = .ok (.invokestatic index, 3)) (hc : (st.map fun v => v.category).sum ≤ 8) (kk : Go l D cA ad (d + 1) M (pc + 3) lv (.long (if y < x then y else x) :: st) σ K) : Go l D cA ad (d + 1) M pc lv (.long y :: .long x :: st) σ K := by
  intro p e s m args below meth c s₁ B hml hC H locs ls hP hS hl
  have hts := atoms_spec (ws := wsM M) B.pre
  have hown : s.vm.findClass M.1.cls = some m.cls := findClass_of_methodNamed B.named
  obtain ⟨h1, h2, h3, h4⟩ := hw
  exact va_mmin_long B.exec B.bytes (hml.trans hl.1.symm) hown (hts _ (List.mem_cons_of_mem _ h1)) (hts _ (List.mem_cons_of_mem _ h2)) (hts _ (List.mem_cons_of_mem _ h3)) (hts _ (List.mem_cons_of_mem _ h4)) (by show 1 ≤ d + 1; omega) (sum_le8 hc ad d 15 (by omega)) (Nat.le_refl 0) (Nat.le_refl 0) hd (kk p e s m args below meth c s₁ B hml hC H locs ls hP hS hl)
theorem go_maxL {index : Nat} {x y : Int64} (hw : mL M.1.cls index Lib.MathLoose.max_long.x Lib.MathLoose.max_long.code 4 .long) (hd : decode M.2.1 pc = .ok (.invokestatic index, 3)) (hc : (st.map fun v => v.category).sum ≤ 8) (kk : Go l D cA ad (d + 1) M (pc + 3) lv (.long (if y < x then x else y) :: st) σ K) : Go l D cA ad (d + 1) M pc lv (.long y :: .long x :: st) σ K := by
  intro p e s m args below meth c s₁ B hml hC H locs ls hP hS hl
  have hts := atoms_spec (ws := wsM M) B.pre
  have hown : s.vm.findClass M.1.cls = some m.cls := findClass_of_methodNamed B.named
  obtain ⟨h1, h2, h3, h4⟩ := hw
  exact va_mmax_long B.exec B.bytes (hml.trans hl.1.symm) hown (hts _ (List.mem_cons_of_mem _ h1)) (hts _ (List.mem_cons_of_mem _ h2)) (hts _ (List.mem_cons_of_mem _ h3)) (hts _ (List.mem_cons_of_mem _ h4)) (by show 1 ≤ d + 1; omega) (sum_le8 hc ad d 15 (by omega)) (Nat.le_refl 0) (Nat.le_refl 0) hd (kk p e s m args below meth c s₁ B hml hC H locs ls hP hS hl)
def aL (own : String) (index : Nat) : Prop := Cond.methodLink own index arraycopyName ∈ tb ∧ Cond.native arraycopyName ∈ tb ∧ Cond.static arraycopyName ∈ tb ∧ Cond.initialized "java/lang/System" ∈ tb
theorem go_copyi {index k1 n1 : Nat} {k0 n0 : Nat} (hs0 : sh[k0]? = some (1, n0)) {sp dp n : Int32} (hw : aL M.1.cls index) (hd : decode M.2.1 pc = .ok (.invokestatic index, 3)) (hs1 : sh[k1]? = some (1, n1)) (h1 : ¬ sp < 0) (h2 : ¬ dp < 0) (h3 : ¬ n < 0) (h4 : sp.toNatClampNeg + n.toNatClampNeg ≤ n0) (h5 : dp.toNatClampNeg + n.toNatClampNeg ≤ n1) (hc : (st.map fun v => v.category).sum ≤ 8) (kk : Go l D cA ad (d + 1) M (pc + 3) lv st (sI σ k1 (va_cpy (σ.1 k0) (σ.1 k1) sp.toNatClampNeg dp.toNatClampNeg n.toNatClampNeg)) K) : Go l D cA ad (d + 1) M pc lv (.int n :: .int dp :: .ref k1 :: .int sp :: .ref k0 :: st) σ K := by
  intro p e s m args below meth c s₁ B hml hC H locs ls hP hS hl
  have hts := atoms_spec (ws := wsM M) B.pre
  have hown : s.vm.findClass M.1.cls = some m.cls := findClass_of_methodNamed B.named
  obtain ⟨g1, g2, g3, g4⟩ := hw
  have hE : (wsA ad cA σ).set k1 (ad k1, .inl (cA 0, n1, .inl (va_cpy (σ.1 k0) (σ.1 k1) sp.toNatClampNeg dp.toNatClampNeg n.toNatClampNeg))) = wsA ad cA (sI σ k1 (va_cpy (σ.1 k0) (σ.1 k1) sp.toNatClampNeg dp.toNatClampNeg n.toNatClampNeg)) := wsA_set hs1 (by show Sum.inl _ = Sum.inl _; simp [sI]) cellA_sI
  refine va_copyi (D := D) (ty := .int) B.exec B.bytes (hml.trans hl.1.symm) hown (hts _ (List.mem_cons_of_mem _ g1)) (hts _ (List.mem_cons_of_mem _ g2)) (hts _ (List.mem_cons_of_mem _ g3)) (hts _ (List.mem_cons_of_mem _ g4)) hC.1 hP (wsA_D hC.2.1) hS k0 k1 0 0 (wsA_get hs0) (wsA_get hs1) rfl rfl rfl h1 h2 h3 h4 h5 (fun i hi => rfl) (by show 1 ≤ d + 1; omega) (sum_le8 hc ad d _ (by decide)) hd (fun H1 locs1 hP1 hD1 hS1 => ?_)
  rw [hE] at hP1
  exact kk p e s m args below meth c s₁ B hml hC H1 locs1 ls hP1 hS1 hl
theorem go_copyt {index k1 n1 : Nat} {j : Nat} (hj : j < 9) {sp dp n : Int32} (hw : aL M.1.cls index) (hd : decode M.2.1 pc = .ok (.invokestatic index, 3)) (hs1 : sh[k1]? = some (1, n1)) (h1 : ¬ sp < 0) (h2 : ¬ dp < 0) (h3 : ¬ n < 0) (h4 : sp.toNatClampNeg + n.toNatClampNeg ≤ (stV j).length) (h5 : dp.toNatClampNeg + n.toNatClampNeg ≤ n1) (hc : (st.map fun v => v.category).sum ≤ 8) (kk : Go l D cA ad (d + 1) M (pc + 3) lv st (sI σ k1 (va_cpy (fun i => (stV j).getD i 0) (σ.1 k1) sp.toNatClampNeg dp.toNatClampNeg n.toNatClampNeg)) K) : Go l D cA ad (d + 1) M pc lv (.int n :: .int dp :: .ref k1 :: .int sp :: .ref (1000 + j) :: st) σ K := by
  intro p e s m args below meth c s₁ B hml hC H locs ls hP hS hl
  have hts := atoms_spec (ws := wsM M) B.pre
  have hown : s.vm.findClass M.1.cls = some m.cls := findClass_of_methodNamed B.named
  obtain ⟨g1, g2, g3, g4⟩ := hw
  have hE : (wsA ad cA σ).set k1 (ad k1, .inl (cA 0, n1, .inl (va_cpy (fun i => (stV j).getD i 0) (σ.1 k1) sp.toNatClampNeg dp.toNatClampNeg n.toNatClampNeg))) = wsA ad cA (sI σ k1 (va_cpy (fun i => (stV j).getD i 0) (σ.1 k1) sp.toNatClampNeg dp.toNatClampNeg n.toNatClampNeg)) := wsA_set hs1 (by show Sum.inl _ = Sum.inl _; simp [sI]) cellA_sI
  obtain ⟨tX, t7⟩ := (hC.2.2.1 j hj).2.2
  refine va_copyx (D := D) (n0 := (stV j).length) (f := fun i => (stV j).getD i 0) B.exec B.bytes (hml.trans hl.1.symm) hown (hts _ (List.mem_cons_of_mem _ g1)) (hts _ (List.mem_cons_of_mem _ g2)) (hts _ (List.mem_cons_of_mem _ g3)) (hts _ (List.mem_cons_of_mem _ g4)) hC.1 hP (wsA_D hC.2.1) hS (b0 := ad (1000 + j)) tX (Array.getElem?_eq_some_iff.mp tX.choose_spec.1).1 t7 k1 0 (wsA_get hs1) rfl h1 h2 h3 h4 h5 (by show 1 ≤ d + 1; omega) (sum_le8 hc ad d _ (by decide)) hd (fun H1 locs1 hP1 hD1 hS1 => ?_)
  rw [hE] at hP1
  exact kk p e s m args below meth c s₁ B hml hC H1 locs1 ls hP1 hS1 hl
/-- a call's words: the link, the code, the room -/
def cB (own : String) (index : Nat) (M' : Mt) (n : Nat) : Prop := Cond.methodLink own index M'.1 ∈ tb ∧ Cond.initialized M'.1.cls ∈ tb ∧ Cond.code M'.1 M'.2.1 M'.2.2.1 M'.2.2.2 ∈ tb ∧ (M'.1.cls ≠ "java/lang/invoke/MethodHandle" ∧ M'.1.cls ≠ "java/lang/invoke/VarHandle" ∧ (parseMethodDescriptor M'.1.desc).map (fun d => d.parameters.length) = some n) ∧ M'.2.2.1 ≤ 21
def cS (own : String) (index : Nat) (M' : Mt) (n : Nat) : Prop := cB own index M' n ∧ Cond.static M'.1 ∈ tb
def cV (own : String) (index : Nat) (M' : Mt) (n : Nat) : Prop := cB own index M' n ∧ Cond.instanceMethod M'.1 ∈ tb ∧ Cond.selects M'.1.cls M'.1 M'.1 ∈ tb
theorem wsM_good {M M' : Mt} (h : Cond.code M'.1 M'.2.1 M'.2.2.1 M'.2.2.2 ∈ tb) : GoodIn (wsM M) (wsM M') := by
  intro w hw
  have h1 : w ∈ tb := by
    rcases List.mem_cons.mp hw with e | e
    · rw [e]; exact h
    · exact e
  exact ⟨List.mem_cons_of_mem _ h1, good_of_word (List.mem_filter.mp h1).2⟩
theorem Pk_blind {D : va_G} {cA ad : Nat → Nat} {σ : AS} {as : List Value} : FrameBlind (va_Pc as (fun U => va_P D cls (wsA ad cA σ) U.heap ∧ Cx D cA ad U U.heap)) := fun a U g mk q => ⟨q.1, q.2.1, Cx.same (u := U) rfl q.2.2⟩
theorem W_run {p : Program} {e : Env} {R : Room} {s : State} {m : MethodId} {args : Array Value} {below : List Frame} {meth : Method} {c : Code} {H : Heap} {locs : List Loc} {Q : State → Prop} {g : JFrame} {rest : List Value} {a : Array Value} {K' : Option Value → AS → Prop}
    (hr : va_Run p l e R s m args below meth c H locs 0 0 0 0 g rest (Qk D cA ad K' a) (oA ad)) (hS : va_S (oA ad) s.heap H locs)
    (kk : ∀ (r : Option Value) (σ' : AS) (H1 : Heap) (locs1 : List Loc), K' r σ' → va_P D cls (wsA ad cA σ') H1 → va_S (oA ad) s.heap H1 locs1 → W p l e R s m args below meth c H1 locs1 0 0 Q { g with pc := g.pc + 3, stack := (r.map (cv ad)).toList ++ rest }) : W p l e R s m args below meth c H locs 0 0 Q g := by
  intro T hT X
  obtain ⟨v, st₀, t, T', L, h0, X', hL, e1, e2, ⟨⟨r, σ', hv, hp, hb⟩, hz, hk⟩, st⟩ := hr T hT X
  cases hv
  rw [h0] at hz hk
  obtain ⟨t2, a1, b1⟩ := kk r σ' T'.heap (locs ++ L) hp (by rw [e1]; exact hb) ⟨Nat.le_trans hS.1 (by rw [e1]; exact hz), fun q h1 h2 => by rw [e1, hk q (Nat.lt_of_lt_of_le h1 hS.1) h2]; exact hS.2.1 q h1 h2, fun q hq => by
      rcases List.mem_append.mp hq with h | h
      · exact hS.2.2 q h
      · exact hL q h⟩ T' rfl X'
  exact ⟨t2, st t2 a1, b1⟩
theorem cB_of {p : Program} {e : Env} {s : State} {m : MethodId} {args : Array Value} {index n : Nat} {M' : Mt} (hts : ∀ w ∈ wsM M, w.before args s = true) (h : cB M.1.cls index M' n) : CallB (rmD (d + 1)) s args M.1.cls index M'.1 M'.2.1 M'.2.2.1 M'.2.2.2 (wsM M') (rmD d) 0 0 n :=
  callB_of n hts (wsM_good h.2.2.1) rfl rfl rfl (hts _ (List.mem_cons_of_mem _ h.2.1)) (hts _ (List.mem_cons_of_mem _ h.1)) h.2.2.2.1 ⟨Nat.le_refl _, by show 8 + (M'.2.2.1 + 11) + 40 * d ≤ 40 * (d + 1); have := h.2.2.2.2; omega⟩
theorem go_callS {M' : Mt} {index n : Nat} {as st0 rest : List Value} (hc : cS M.1.cls index M' n) (hd : decode M.2.1 pc = .ok (.invokestatic index, 3)) (hst : st0 = as.reverse ++ rest) (hn : as.length = n) (h8 : (rest.map fun v => v.category).sum ≤ 8)
    (kk : Call l D cA ad d M' as σ (fun r σ' => Go l D cA ad (d + 1) M (pc + 3) lv (r.toList ++ rest) σ' K)) : Go l D cA ad (d + 1) M pc lv st0 σ K := by
  intro p e s m args below meth c s₁ B hml hC H locs ls hP hS hl
  have hts := atoms_spec (ws := wsM M) B.pre
  have hown : s.vm.findClass M.1.cls = some m.cls := findClass_of_methodNamed B.named
  refine W_run (va_runS (As := as.map (cv ad)) (rest := rest.map (cv ad)) ⟨B.exec, B.bytes, hml, hown, hts⟩ kk ⟨cB_of (p := p) (e := e) (m := m) hts hc.1, hts _ (List.mem_cons_of_mem _ hc.2)⟩ ⟨Pk_blind, fun U hU hW => ⟨rfl, by rw [hU]; exact hP, by rw [hU]; exact (hC.warm hW).kept hS.2.1⟩⟩ rfl (by rw [List.length_map]; exact hn) hl.1 (by subst hst; show List.map _ _ = _; rw [List.map_append, List.map_reverse]) (lv_room (by rw [cv_cats]; exact h8)) hd ⟨Nat.le_refl 0, Nat.le_refl 0⟩) hS (fun r σ' H1 locs1 hk hP1 hS1 => ?_)
  have := hk p e s m args below meth c s₁ B hml hC H1 locs1 ls hP1 hS1 hl
  cases r <;> exact this
theorem go_callV {M' : Mt} {index n k ci : Nat} {as st0 rest : List Value} (hc : cV M.1.cls index M' n) (hd : decode M.2.1 pc = .ok (.invokevirtual index, 3)) (hs : sh[k]? = some (0, ci)) (hq : (cls[ci]?).map (fun q => q.1) = some M'.1.cls) (hst : st0 = as.reverse ++ .ref k :: rest) (hn : as.length = n) (h8 : (rest.map fun v => v.category).sum ≤ 8)
    (kk : Call l D cA ad d M' (.ref k :: as) σ (fun r σ' => Go l D cA ad (d + 1) M (pc + 3) lv (r.toList ++ rest) σ' K)) : Go l D cA ad (d + 1) M pc lv st0 σ K := by
  intro p e s m args below meth c s₁ B hml hC H locs ls hP hS hl
  have hts := atoms_spec (ws := wsM M) B.pre
  have hown : s.vm.findClass M.1.cls = some m.cls := findClass_of_methodNamed B.named
  obtain ⟨q, hq1, hq2⟩ : ∃ q, cls[ci]? = some q ∧ q.1 = M'.1.cls := by
    cases h : cls[ci]? with
    | none => rw [h] at hq; cases hq
    | some q => rw [h] at hq; exact ⟨q, rfl, Option.some.inj hq⟩
  have hrec := va_recv hC.1 hP hq1 (wsA_get hs)
  rw [hq2] at hrec
  refine W_run (va_runV (C := M'.1.cls) (b := ad k) (As := as.map (cv ad)) (rest := rest.map (cv ad)) ⟨B.exec, B.bytes, hml, hown, hts⟩ kk ⟨cB_of (p := p) (e := e) (m := m) hts hc.1, hts _ (List.mem_cons_of_mem _ hc.2.1), hts _ (List.mem_cons_of_mem _ hc.2.2)⟩ ⟨Pk_blind, hrec, fun U hU hW => ⟨rfl, by rw [hU]; exact hP, by rw [hU]; exact (hC.warm hW).kept hS.2.1⟩⟩ rfl (by rw [List.length_map]; exact hn) hl.1 (by subst hst; show List.map _ _ = _; rw [List.map_append, List.map_reverse]; rfl) (lv_room (by rw [cv_cats]; exact h8)) hd ⟨Nat.le_refl 0, Nat.le_refl 0⟩) hS (fun r σ' H1 locs1 hk hP1 hS1 => ?_)
  have := hk p e s m args below meth c s₁ B hml hC H1 locs1 ls hP1 hS1 hl
  cases r <;> exact this
end GO5
