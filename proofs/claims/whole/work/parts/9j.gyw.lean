/-! GY: fields, making cells -/
section GYS
variable {p : Program} {l : Launch} {e : Env} {R : Room} {s : State} {m : MethodId} {args : Array Value} {below : List Frame} {meth : Method} {c : Code} {Q : State → Prop} {D : va_G} {cA ad : Nat → Nat} {nL cells slots n pc : Nat} {lv st : List Value} {σ : AS} {own : String} {cc : ByteArray}
theorem gy_getR {index ci j k a : Nat} (hB : BX p s m args c D cA ad own cc nL) (hf : fOK own index ci j 2) (hd : decode cc pc = .ok (.getfield index, 3)) (hs : sh[k]? = some (0, ci)) (hk : k < n) (hr : σ.2.2 k j = some a) (kk : GY p l e R s m args below meth c Q D cA ad nL cells slots n (pc + 3) lv (.ref a :: st) σ) : GY p l e R s m args below meth c Q D cA ad nL cells slots n pc lv (.ref k :: st) σ := by
  intro H locs ls hP hsz hS hl
  obtain ⟨hx, hb, hml, hown, hts, hC⟩ := hB
  obtain ⟨q, h1, h2, h3, h4⟩ := hf
  have hv := objV_get (ad := ad) (σ := σ) (k := k) h4
  rw [show fV ad σ k 2 j = Value.ref (ad a) by show va_rf _ = _; rw [hr]; rfl] at hv
  exact va_get (D := D) (C := q.1) (T := q.2.1) (N := q.2.2) (ci := ci) hx hb hts (cls_in q (List.mem_of_getElem? h1)) hown hC.1 hP k (wsN_get hs hk) h1 j h2 (hts _ h3) (fun _ h => h) hv hd (kk H locs ls hP hsz hS hl)
theorem gy_put {index ci j k t : Nat} {v : Value} {σ' : AS} (hB : BX p s m args c D cA ad own cc nL) (hin2 : meth.name = "<init>") (hf : fOK own index ci j t) (hdecl : (cls[ci]?).map (fun q => (q.2.1 j).1) = some own) (hd : decode cc pc = .ok (.putfield index, 3)) (hs : sh[k]? = some (0, ci)) (hk : k < n) (hn : n ≤ nC) (hz : narrow (tyf ci j) (cv ad v) = cv ad v) (hft : fits (tyf ci j) (cv ad v) = true) (hσ : (objV ad σ k (fk ci)).set j (cv ad v) = objV ad σ' k (fk ci)) (hσ2 : ∀ i, i ≠ k → ∀ s, cellA ad cA σ' i s = cellA ad cA σ i s) (kk : GY p l e R s m args below meth c Q D cA ad nL cells slots n (pc + 3) lv st σ') : GY p l e R s m args below meth c Q D cA ad nL cells slots n pc lv (v :: .ref k :: st) σ := by
  intro H locs ls hP hsz hS hl
  obtain ⟨hx, hb, hml, hown, hts, hC⟩ := hB
  obtain ⟨q, h1, h2, h3, h4⟩ := hf
  have hin := cls_in q (List.mem_of_getElem? h1)
  have hD := wsN_D (cA := cA) (σ := σ) hn hC.2.1
  have he := wsN_get (ad := ad) (cA := cA) (σ := σ) hs hk
  have hap := va_apart (own := own) hts hin (tyf ci) (cls_ty h1).1 (cls_ty h1).2 hC.1 h1
  have hlen : j < (objV ad σ k (fk ci)).length := (List.getElem?_eq_some_iff.mp (objV_get (ad := ad) (σ := σ) (k := k) h4)).1
  obtain ⟨r, g1, cell, q1, q2, q3, q4⟩ := hP k _ he
  have hr : r = q := Option.some.inj (g1.symm.trans h1)
  subst hr
  obtain ⟨hSl, hfc, kC, hkC, hkind⟩ := hC.1.1 ci _ h1
  obtain ⟨cf, kf, fi, f, hi, hsl⟩ := hSl j h2
  have hst := (u_facts hfc hkC (u_lays hts hin h2) hi).1
  have hend : ∀ H' : Heap, H'[ad k]? = some (cell.setSlot (D.2 ci j) (cv ad v)) → H'.size = H.size → (∀ q : Nat, q ≠ ad k → H'[q]? = H[q]?) → W p l e R s m args below meth c H' (locs ++ [⟨ad k, D.2 ci j⟩]) cells slots Q (F0 m (pc + 3) ls (st.map (cv ad))) := by
    intro H' e1 e2 e3
    have hP1 := hP.set hD he (e := .inr (ci, (objV ad σ k (fk ci)).set j (cv ad v))) ⟨_, h1, t_OB.to (V := updV (vp_V (objV ad σ k (fk ci))) j (cv ad v)) ⟨_, e1, q2, q3, t_set q4 hap h2 _⟩ (fun i _ => vp_updV_set hlen _ i)⟩ e3
    have hE : (wsN ad cA σ n).set k (ad k, .inr (ci, (objV ad σ k (fk ci)).set j (cv ad v))) = wsN ad cA σ' n := wsN_set hs hk (by show Sum.inr _ = Sum.inr _; rw [hσ]) hσ2
    rw [hE] at hP1
    exact kk H' _ ls hP1 (e2.trans hsz) (hS.put e2 e3 (hD.2 k _ he)) hl
  have hlay := hts _ (hin _ (u_in_lay h2))
  unfold u_lay at hlay
  by_cases hfin : (r.2.1 j).2.2.2 = true
  · rw [if_pos hfin] at hlay
    have hcf : m.cls = cf := by
      obtain ⟨_, _, c', _, _, _, -, -, hf', -, -, -, hown2, -⟩ := Cond.laysFinal_spec hlay
      have e1 : c' = cf := by have := hi.symm.trans hf'; simp at this; exact this.1.symm
      rw [h1] at hdecl
      have hdecl := Option.some.inj hdecl
      dsimp only at hdecl
      rw [hdecl] at hown2
      rw [← e1]; exact Option.some.inj (hown.symm.trans hown2)
    have h6 := u_fits hfc hkC hkind (Or.inr hlay) hi ((cls_ty h1).1 j h2) hz hft
    refine W.putFinK hx hb hown (hts _ h3) hi hst hcf hin2 (by rw [q2]; exact h6) q1 q3 (by rw [hsl]; exact k2_hasslot (q4 j h2)) rfl rfl hd fun H' e1 e2 e3 => ?_
    rw [hsl] at e1 ⊢
    exact hend H' e1 e2 e3
  · rw [if_neg hfin] at hlay
    have h6 := u_store hfc hkC hkind hlay hi ((cls_ty h1).1 j h2) hz hft
    refine W.putK hx hb (f := f) ⟨hown, hts _ h3, ⟨_, _, _, hi⟩, hst⟩ (by rw [q2]; exact h6) q1 q3 (by rw [hsl]; exact k2_hasslot (q4 j h2)) rfl rfl hd fun H' e1 e2 e3 => ?_
    rw [hsl] at e1 ⊢
    exact hend H' e1 e2 e3
theorem gy_putR {index ci j k x : Nat} (hB : BX p s m args c D cA ad own cc nL) (hin2 : meth.name = "<init>") (hf : fOK own index ci j 2) (hdecl : (cls[ci]?).map (fun q => (q.2.1 j).1) = some own) (hd : decode cc pc = .ok (.putfield index, 3)) (hs : sh[k]? = some (0, ci)) (hk : k < n) (hn : n ≤ nC) (hz : ∀ a, narrow (tyf ci j) (.ref a) = .ref a) (hft : ∀ a, fits (tyf ci j) (.ref a) = true) (kk : GY p l e R s m args below meth c Q D cA ad nL cells slots n (pc + 3) lv st (sR σ k (va_up (σ.2.2 k) j (some x)))) : GY p l e R s m args below meth c Q D cA ad nL cells slots n pc lv (.ref x :: .ref k :: st) σ :=
  gy_put hB hin2 hf hdecl hd hs hk hn (hz _) (hft _) (by obtain ⟨q, h1, h2, h3, h4⟩ := hf; rw [objV_set (σ' := sR σ k (va_up (σ.2.2 k) j (some x))) h4 (by show va_rf _ = _; simp [sR, va_up, va_rf, cv]) (fun i hi t => by match t with | 0 => rfl | 1 => rfl | t + 2 => (show va_rf _ = va_rf _; simp [sR, va_up, hi]))]) cellA_sR kk
theorem gy_putI {index ci j k : Nat} {x : Int32} (hB : BX p s m args c D cA ad own cc nL) (hin2 : meth.name = "<init>") (hf : fOK own index ci j 0) (hdecl : (cls[ci]?).map (fun q => (q.2.1 j).1) = some own) (hd : decode cc pc = .ok (.putfield index, 3)) (hs : sh[k]? = some (0, ci)) (hk : k < n) (hn : n ≤ nC) (hz : narrow (tyf ci j) (.int x) = .int x) (hft : fits (tyf ci j) (.int x) = true) (kk : GY p l e R s m args below meth c Q D cA ad nL cells slots n (pc + 3) lv st (sI σ k (upd (σ.1 k) j x))) : GY p l e R s m args below meth c Q D cA ad nL cells slots n pc lv (.int x :: .ref k :: st) σ :=
  gy_put hB hin2 hf hdecl hd hs hk hn hz hft (by obtain ⟨q, h1, h2, h3, h4⟩ := hf; rw [objV_set (σ' := sI σ k (upd (σ.1 k) j x)) h4 (by show Value.int _ = Value.int _; simp [sI, upd]) (fun i hi t => by match t with | 0 => (show Value.int _ = Value.int _; simp [sI, upd, hi]) | 1 => rfl | t + 2 => rfl)]) cellA_sI kk
def okT (t : FieldType) : Bool := match t with
  | .int => true | .boolean => true | .byte => true | .long => true | .object _ => true | .array _ => true | _ => false
theorem okT_all : ∀ ci, ci < 13 → ∀ j, j < (cls.getD ci ("", TX0, 0)).2.2 → okT (tyf ci j) = true := by decide +kernel
theorem okT_def {σ : AS} {k j : Nat} {t : FieldType} (h : okT t = true) (hZ : Zr σ k) : defaultValue t = fV ad σ k (kindOf t) j := by
  obtain ⟨z1, z2, z3⟩ := hZ k (Nat.le_refl k)
  cases t <;> first | (cases h; done) | (show _ = Value.int (σ.1 k j); rw [z1]; rfl) | (show _ = Value.long (σ.2.1 k j); rw [z2]; rfl) | (show _ = va_rf ((σ.2.2 k j).map ad); rw [z3]; rfl)
theorem gy_grow {H H1 : Heap} {locs : List Loc} {x : Nat × Nat} (hA : AdS ad) (hn : n < nC) (hs : sh[n]? = some x) (hP : va_P D cls (wsN ad cA σ n) H) (hsz : H.size = ad n) (hS : va_S (oA ad) s.heap H locs) (e1 : va_at D cls (ad n, cellA ad cA σ n x) H1) (z1 : H1.size = ad n + 1) (o1 : ∀ q : Nat, q < ad n → H1[q]? = H[q]?) : va_P D cls (wsN ad cA σ (n + 1)) H1 ∧ H1.size = ad (n + 1) ∧ va_S (oA ad) s.heap H1 locs := by
  refine ⟨?_, by rw [z1, hA n hn], Nat.le_trans hS.1 (by omega), fun q h1 h2 => (o1 q (by have := hS.1; omega)).trans (hS.2.1 q h1 h2), hS.2.2⟩
  rw [wsN_succ hs]
  refine (hP.kept (fun k q hq => o1 q.1 (by rw [← hsz]; exact (hP k q hq).lt))).app (fun k q hq => ?_)
  have h0 : k < 1 := (List.getElem?_eq_some_iff.mp hq).1
  rw [show k = 0 by omega] at hq
  cases hq
  exact e1
theorem gy_new {index ci N : Nat} {C : String} {T : u_T} (hB : BX p s m args c D cA ad own cc nL) (hA : AdS ad) (hn : n < nC) (hcl : Cond.classLink own index C ∈ tb) (hinst : Cond.instantiable C N ∈ tb) (hini : Cond.initialized C ∈ tb) (hs : sh[n]? = some (0, ci)) (hq : cls[ci]? = some (C, T, N)) (hZ : Zr σ n) (hcells : cells + 1 ≤ R.cells) (hslots : slots + N ≤ R.slots) (hd : decode cc pc = .ok (.new index, 3)) (kk : GY p l e R s m args below meth c Q D cA ad nL (cells + 1) (slots + N) (n + 1) (pc + 3) lv (.ref n :: st) σ) : GY p l e R s m args below meth c Q D cA ad nL cells slots n pc lv st σ := by
  intro H locs ls hP hsz hS hl
  obtain ⟨hx, hb, hml, hown, hts, hC⟩ := hB
  have hKn := hC.1.1 ci _ hq
  refine W.newcK hx hb hown (hts _ hcl) (hts _ hinst) (hts _ hini) rfl hd hcells hslots hKn.2.1 hsz fun H1 kC hkC e1 z1 o1 => ?_
  obtain ⟨g1, g2, g3⟩ := gy_grow (s := s) (H1 := H1) hA hn hs hP hsz hS ⟨_, hq, (u_born (tyf ci) hts (cls_in _ (List.mem_of_getElem? hq)) hKn hkC e1 (cls_ty hq).1).to (fun j hj => by
    have hci : ci < 13 := (List.getElem?_eq_some_iff.mp hq).1
    have hgd : cls.getD ci ("", TX0, 0) = (C, T, N) := by rw [List.getD_eq_getElem?_getD, hq]; rfl
    have ht := okT_all ci hci j (by rw [hgd]; exact hj)
    have h4 : (fk ci)[j]? = some (kindOf (tyf ci j)) := by unfold fk; rw [hgd, List.getElem?_map, List.getElem?_range hj]; rfl
    have h5 := objV_get (ad := ad) (σ := σ) (k := n) h4
    show _ = vp_V (objV ad σ n (fk ci)) j
    unfold vp_V
    rw [List.getD_eq_getElem?_getD, h5]
    exact okT_def ht hZ)⟩ z1 o1
  exact kk H1 locs ls g1 g2 g3 hl
end GYS
