/-! GY: calls, arrays of references -/
theorem AdS.add {ad : Nat → Nat} (h : AdS ad) : ∀ (j n : Nat), n + j ≤ nC → ad (n + j) = ad n + j
  | 0, _, _ => rfl
  | j + 1, n, hn => by
    rw [show n + (j + 1) = (n + j) + 1 by omega, h (n + j) (by omega), AdS.add h j n (by omega)]
    omega
/-- what a constructor's call wants of the tables -/
def cI (M' : Mt) (n : Nat) : Prop := Cond.code M'.1 M'.2.1 M'.2.2.1 none ∈ tb ∧ Cond.initialized M'.1.cls ∈ tb ∧ Cond.instanceMethod M'.1 ∈ tb ∧ M'.1.name = "<init>" ∧ (M'.1.cls ≠ "java/lang/invoke/MethodHandle" ∧ M'.1.cls ≠ "java/lang/invoke/VarHandle" ∧ (parseMethodDescriptor M'.1.desc).map (fun d => d.parameters.length) = some n) ∧ M'.2.2.1 ≤ 21 ∧ M'.2.2.2 = none
section GYS
variable {p : Program} {l : Launch} {e : Env} {R : Room} {s : State} {m : MethodId} {args : Array Value} {below : List Frame} {meth : Method} {c : Code} {Q : State → Prop} {D : va_G} {cA ad : Nat → Nat} {nL cells slots n pc : Nat} {lv st : List Value} {σ : AS} {own : String} {cc : ByteArray}
theorem W_runY {H : Heap} {locs : List Loc} {g : JFrame} {rest : List Value} {a : Array Value} {K' : Option Value → AS → Prop} {mc ms n1 : Nat}
    (hr : va_Run p l e R s m args below meth c H locs cells slots mc ms g rest (QY D cA ad n1 K' a) (oA ad)) (hS : va_S (oA ad) s.heap H locs)
    (kk : ∀ (r : Option Value) (σ' : AS) (H1 : Heap) (locs1 : List Loc), K' r σ' → va_P D cls (wsN ad cA σ' n1) H1 → H1.size = ad n1 → va_S (oA ad) s.heap H1 locs1 → W p l e R s m args below meth c H1 locs1 (cells + mc) (slots + ms) Q { g with pc := g.pc + 3, stack := (r.map (cv ad)).toList ++ rest }) : W p l e R s m args below meth c H locs cells slots Q g := by
  intro T hT X
  obtain ⟨v, st₀, t, T', L, h0, X', hL, e1, e2, ⟨⟨r, σ', hv, hp, hb, hz2⟩, hz, hk⟩, st⟩ := hr T hT X
  cases hv
  rw [h0] at hz hk
  obtain ⟨t2, a1, b1⟩ := kk r σ' T'.heap (locs ++ L) hp (by rw [e1]; exact hb) (by rw [e1]; exact hz2) ⟨Nat.le_trans hS.1 (by rw [e1]; exact hz), fun q h1 h2 => by rw [e1, hk q (Nat.lt_of_lt_of_le h1 hS.1) h2]; exact hS.2.1 q h1 h2, fun q hq => by
      rcases List.mem_append.mp hq with h | h
      · exact hS.2.2 q h
      · exact hL q h⟩ T' rfl X'
  exact ⟨t2, st t2 a1, b1⟩
theorem gy_callN {M' : Mt} {index np k d mc ms n1 : Nat} {as st0 rest : List Value} (hB : BX p s m args c D cA ad own cc nL) (hI : CxI s) (hw : Cond.methodLinkNest own index M'.1 RX11 ∈ nestI) (hc : cI M' np) (hR : d + 1 ≤ R.frames ∧ 40 * (d + 1) ≤ R.locals ∧ cells + mc ≤ R.cells ∧ slots + ms ≤ R.slots) (hd : decode cc pc = .ok (.invokespecial index, 3)) (hst : st0 = as.reverse ++ .ref k :: rest) (hn : as.length = np) (h8 : (rest.map fun v => v.category).sum ≤ 8)
    (kk : CallY l D cA ad d mc ms M' (.ref k :: as) n n1 σ (fun r σ' => r = none ∧ GY p l e R s m args below meth c Q D cA ad nL (cells + mc) (slots + ms) n1 (pc + 3) lv rest σ')) : GY p l e R s m args below meth c Q D cA ad nL cells slots n pc lv st0 σ := by
  intro H locs ls hP hsz hS hl
  obtain ⟨hx, hb, hml, hown, hts, hC⟩ := hB
  obtain ⟨c1, c2, c3, c4, c5, c6, c7⟩ := hc
  have hcn := va_cnB (R := R) (rm := rmY d mc ms) (mc := mc) (ms := ms) (own := own) (host := RX11) (index := index) np hts (tb_good (M' := M') (by rw [c7]; exact c1)) (show wsM M' = Cond.code M'.1 M'.2.1 M'.2.2.1 none :: tb by unfold wsM; rw [c7]) rfl rfl (hI.1 _ hw) (hts _ c2) c5 ⟨hR.1, by show 8 + (M'.2.2.1 + 11) + 40 * d ≤ R.locals; have := hR.2.1; omega⟩
  refine W_runY (va_runIN (b := ad k) (As := as.map (cv ad)) (rest := rest.map (cv ad)) ⟨hx, hb, hml, hown, hts⟩ kk ⟨hcn, c4, hts _ c3⟩ ⟨PY_blind, fun U hU hW => ⟨rfl, by rw [hU]; exact hP, by rw [hU]; exact hsz, by rw [hU]; exact (hC.warm hW).kept hS.2.1, hI.warm hW⟩⟩ rfl (by rw [List.length_map]; exact hn) hl.1 (by subst hst; show List.map _ _ = _; rw [List.map_append, List.map_reverse]; rfl) (lv_room (by rw [cv_cats]; exact h8)) hd hR.2.2) hS (fun r σ' H1 locs1 hk hP1 hz1 hS1 => ?_)
  obtain ⟨rfl, hk⟩ := hk
  exact hk H1 locs1 ls hP1 hz1 hS1 hl
theorem gy_callI {M' : Mt} {index np k d mc ms n1 : Nat} {as st0 rest : List Value} (hB : BX p s m args c D cA ad own cc nL) (hI : CxI s) (hw : Cond.methodLink own index M'.1 ∈ tb) (hc : cI M' np) (hR : d + 1 ≤ R.frames ∧ 40 * (d + 1) ≤ R.locals ∧ cells + mc ≤ R.cells ∧ slots + ms ≤ R.slots) (hd : decode cc pc = .ok (.invokespecial index, 3)) (hst : st0 = as.reverse ++ .ref k :: rest) (hn : as.length = np) (h8 : (rest.map fun v => v.category).sum ≤ 8)
    (kk : CallY l D cA ad d mc ms M' (.ref k :: as) n n1 σ (fun r σ' => r = none ∧ GY p l e R s m args below meth c Q D cA ad nL (cells + mc) (slots + ms) n1 (pc + 3) lv rest σ')) : GY p l e R s m args below meth c Q D cA ad nL cells slots n pc lv st0 σ := by
  intro H locs ls hP hsz hS hl
  obtain ⟨hx, hb, hml, hown, hts, hC⟩ := hB
  obtain ⟨c1, c2, c3, c4, c5, c6, c7⟩ := hc
  have hcn : CallB R s args own index M'.1 M'.2.1 M'.2.2.1 none (wsM M') (rmY d mc ms) mc ms np := callB_of np hts (tb_good (M' := M') (by rw [c7]; exact c1)) (show wsM M' = Cond.code M'.1 M'.2.1 M'.2.2.1 none :: tb by unfold wsM; rw [c7]) rfl rfl (hts _ c2) (hts _ hw) c5 ⟨hR.1, by show 8 + (M'.2.2.1 + 11) + 40 * d ≤ R.locals; have := hR.2.1; omega⟩
  refine W_runY (va_runI (b := ad k) (As := as.map (cv ad)) (rest := rest.map (cv ad)) ⟨hx, hb, hml, hown, hts⟩ kk ⟨hcn, c4, hts _ c3⟩ ⟨PY_blind, fun U hU hW => ⟨rfl, by rw [hU]; exact hP, by rw [hU]; exact hsz, by rw [hU]; exact (hC.warm hW).kept hS.2.1, hI.warm hW⟩⟩ rfl (by rw [List.length_map]; exact hn) hl.1 (by subst hst; show List.map _ _ = _; rw [List.map_append, List.map_reverse]; rfl) (lv_room (by rw [cv_cats]; exact h8)) hd hR.2.2) hS (fun r σ' H1 locs1 hk hP1 hz1 hS1 => ?_)
  obtain ⟨rfl, hk⟩ := hk
  exact hk H1 locs1 ls hP1 hz1 hS1 hl
theorem gy_callVs {M' : Mt} {index np i d : Nat} {as st0 rest : List Value} (hB : BX p s m args c D cA ad own cc nL) (hI : CxI s) (hi : i < 12) (hc : cV own index M' np) (hq : M'.1.cls = "java/lang/String") (hR : d + 1 ≤ R.frames ∧ 40 * (d + 1) ≤ R.locals ∧ cells ≤ R.cells ∧ slots ≤ R.slots) (hd : decode cc pc = .ok (.invokevirtual index, 3)) (hst : st0 = as.reverse ++ .ref (2000 + i) :: rest) (hn : as.length = np) (h8 : (rest.map fun v => v.category).sum ≤ 8)
    (kk : CallY l D cA ad d 0 0 M' (.ref (2000 + i) :: as) n n σ (fun r σ' => GY p l e R s m args below meth c Q D cA ad nL cells slots n (pc + 3) lv (r.toList ++ rest) σ')) : GY p l e R s m args below meth c Q D cA ad nL cells slots n pc lv st0 σ := by
  intro H locs ls hP hsz hS hl
  obtain ⟨hx, hb, hml, hown, hts, hC⟩ := hB
  have hrec : ∃ cell : Cell, H[ad (2000 + i)]? = some cell ∧ cell.vm.isStatics = false ∧ s.vm.findClass M'.1.cls = some cell.cls := by
    obtain ⟨cell, h1, h2, h3, -⟩ := ((hC.2.2.2.1 i hi).2.1).kept hS.2.1
    exact ⟨cell, h1, h2, by rw [hq]; exact h3⟩
  have hcb : CallB R s args own index M'.1 M'.2.1 M'.2.2.1 M'.2.2.2 (wsM M') (rmY d 0 0) 0 0 np :=
    callB_of np hts (tb_good hc.1.2.2.1) rfl rfl rfl (hts _ hc.1.2.1) (hts _ hc.1.1) hc.1.2.2.2.1 ⟨hR.1, by show 8 + (M'.2.2.1 + 11) + 40 * d ≤ R.locals; have := hc.1.2.2.2.2; have := hR.2.1; omega⟩
  refine W_runY (va_runV (C := M'.1.cls) (b := ad (2000 + i)) (As := as.map (cv ad)) (rest := rest.map (cv ad)) ⟨hx, hb, hml, hown, hts⟩ kk ⟨hcb, hts _ hc.2.1, hts _ hc.2.2⟩ ⟨PY_blind, hrec, fun U hU hW => ⟨rfl, by rw [hU]; exact hP, by rw [hU]; exact hsz, by rw [hU]; exact (hC.warm hW).kept hS.2.1, hI.warm hW⟩⟩ rfl (by rw [List.length_map]; exact hn) hl.1 (by subst hst; show List.map _ _ = _; rw [List.map_append, List.map_reverse]; rfl) (lv_room (by rw [cv_cats]; exact h8)) hd hR.2.2) hS (fun r σ' H1 locs1 hk hP1 hz1 hS1 => ?_)
  have := hk H1 locs1 ls hP1 hz1 hS1 hl
  cases r <;> exact this
theorem gy_anew {index t N : Nat} {C : String} {x : Int32} (hB : BX p s m args c D cA ad own cc nL) (hA : AdS ad) (hn : n < nC) (hw : Cond.classLink own index C ∈ tb) (hover : va_AO C s) (hRA : (tysA cA)[t + 3]? = some (cA (t + 3), .object C)) (hs : sh[n]? = some (t + 4, N)) (hZ : Zr σ n) (hx0 : ¬ x < 0) (hxN : x.toNatClampNeg = N) (hN : N ≤ 10000) (hcells : cells + 1 ≤ R.cells) (hslots : slots + N ≤ R.slots) (hd : decode cc pc = .ok (.anewarray index, 3)) (kk : GY p l e R s m args below meth c Q D cA ad nL (cells + 1) (slots + N) (n + 1) (pc + 3) lv (.ref n :: st) σ) : GY p l e R s m args below meth c Q D cA ad nL cells slots n pc lv (.int x :: st) σ := by
  intro H locs ls hP hsz hS hl
  obtain ⟨hx, hb, hml, hown, hts, hC⟩ := hB
  subst hxN
  refine W.anew hx hb hown (hts _ hw) (va_AO.use hover) rfl hd rfl hx0 (by omega) hcells hslots fun cA' kA comp f1 f2 f3 f4 => ?_
  obtain ⟨_, _, -, -, -, q5⟩ := (hC.1.2 (t + 3) _ hRA).2
  have hcc : cA' = cA (t + 3) := Option.some.inj (f1.symm.trans q5)
  subst hcc
  generalize hH1 : H.push ({ cls := cA (t + 3), slots := Array.replicate x.toNatClampNeg .null, vm := .none } : Cell) = H1
  have z1 : H1.size = ad n + 1 := by rw [← hH1, Array.size_push, hsz]
  have e1 : H1[ad n]? = some (arrV (cA (t + 3)) x.toNatClampNeg (fun _ => .null)) := by rw [← hH1, ← hsz, Array.getElem?_push_size, ← arrV_new]
  have o1 : ∀ q : Nat, q < ad n → H1[q]? = H[q]? := fun q hq => by rw [← hH1, Array.getElem?_push, if_neg (by omega)]
  obtain ⟨g1, g2, g3⟩ := gy_grow (s := s) (H1 := H1) hA hn hs hP hsz hS (by
    show H1[ad n]? = some (vp_cell _ _)
    rw [vp_cell_q, e1, (hZ n (Nat.le_refl n)).2.2]; rfl) z1 o1
  rw [hsz]
  exact kk H1 locs ls g1 g2 g3 hl
theorem gy_aast {k t N v ci : Nat} {C : String} {T : u_T} {M : Nat} {x : Int32} (hB : BX p s m args c D cA ad own cc nL) (hn : n ≤ nC) (hRA : (tysA cA)[t + 3]? = some (cA (t + 3), .object C)) (hs : sh[k]? = some (t + 4, N)) (hk : k < n) (hsv : sh[v]? = some (0, ci)) (hv : v < n) (hq : cls[ci]? = some (C, T, M)) (hin : vp_in x N) (hd : decode cc pc = .ok (.aastore, 1)) (kk : GY p l e R s m args below meth c Q D cA ad nL cells slots n (pc + 1) lv st (sR σ k (va_up (σ.2.2 k) x.toNatClampNeg (some v)))) : GY p l e R s m args below meth c Q D cA ad nL cells slots n pc lv (.ref v :: .int x :: .ref k :: st) σ := by
  intro H locs ls hP hsz hS hl
  obtain ⟨hx, hb, hml, hown, hts, hC⟩ := hB
  have hD := wsN_D (cA := cA) (σ := σ) hn hC.2.1
  have ha := wsN_get (ad := ad) (cA := cA) (σ := σ) hs hk
  have hlt : x.toNatClampNeg < N := Nat.not_le.mp fun q => hin (Or.inr q)
  have h0 : ¬ x < 0 := fun q => hin (Or.inl q)
  obtain ⟨r', hr', cellV, g1, g2, g3, -⟩ := hP v _ (wsN_get hsv hv)
  have hcls := (hC.1.1 ci _ hq).2
  obtain ⟨kA, comp, k1, k2, k3, -⟩ := (hC.1.2 (t + 3) _ hRA).2
  have hcomp : comp = D.1 ci := Option.some.inj (k3.symm.trans hcls.1)
  subst hcomp
  obtain ⟨kC, hkC, -⟩ := hcls.2
  refine W.aast hx hb (hP k _ ha) (fun q h => by cases h) (fun h => by cases h) k1 k2 rfl hkC ⟨h0, by show _ < (arrV _ _ _).slots.size; rw [arrV_size]; exact hlt⟩ g1 (fun q h => by rw [g3] at h; cases h) (by rw [g2]; exact hkC) (by rw [g2]; exact va_assign hcls) rfl rfl hd fun H1 e z oq => ?_
  have hE : (wsN ad cA σ n).set k (ad k, .inl (cA (t + 3), N, .inr (.inr (.inr (.inr (fun j => ((va_up (σ.2.2 k) x.toNatClampNeg (some v)) j).map ad)))))) = wsN ad cA (sR σ k (va_up (σ.2.2 k) x.toNatClampNeg (some v))) n := wsN_set hs hk (by show Sum.inl _ = Sum.inl _; simp [sR]) cellA_sR
  have hP1 := hP.set hD ha (e := .inl (cA (t + 3), N, .inr (.inr (.inr (.inr (fun j => ((va_up (σ.2.2 k) x.toNatClampNeg (some v)) j).map ad)))))) (by
    show H1[ad k]? = some (vp_cell _ _)
    rw [e, vp_cell_q, vp_cell_q, arrV_store]
    congr 2
    funext q
    by_cases hq : q = x.toNatClampNeg
    · subst hq
      simp [updV, va_up, va_rf]
    · simp [updV, va_up, hq]) oq
  rw [hE] at hP1
  exact kk H1 _ ls hP1 (z.trans hsz) (hS.put z oq (hD.2 k _ ha)) hl
end GYS
