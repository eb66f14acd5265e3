/-! Go: from a place of a method to its return; Call: a method's contract, both with what is asked of answer and store. -/
abbrev Mt : Type := MethodName × ByteArray × Nat × Option FieldType
def tb : List Cond := lw_tbl.filter goodWord
theorem tb_in {w : Cond} (h : w ∈ lw_tbl) (g : goodWord w = true) : w ∈ tb := List.mem_filter.mpr ⟨h, g⟩
def wsM (M : Mt) : List Cond := .code M.1 M.2.1 M.2.2.1 M.2.2.2 :: tb
def rmD (d : Nat) : Room := { frames := d, cells := 0, slots := 0, locals := 40 * d }
def Qk (D : va_G) (cA ad : Nat → Nat) (K : Option Value → AS → Prop) : Array Value → State → Outcome → State → Prop := fun _ st oc t => (∃ (r : Option Value) (σ' : AS), oc = .returned (r.map (cv ad)) ∧ K r σ' ∧ va_P D cls (wsA ad cA σ') t.heap) ∧ va_F (oA ad) st t
def Call (l : Launch) (D : va_G) (cA ad : Nat → Nat) (d : Nat) (M : Mt) (as : List Value) (σ : AS) (K : Option Value → AS → Prop) : Prop :=
  Met l M.1 (wsM M) (rmD d) (va_Pc (as.map (cv ad)) (fun U => va_P D cls (wsA ad cA σ) U.heap ∧ Cx D cA ad U U.heap)) (Qk D cA ad K) 0 0 (oA ad)
/-- locals: a list of values, .null where nothing is known -/
def lvL (ad : Nat → Nat) (lv : List Value) : List (Nat × Value) := (List.range lv.length).filterMap (fun i => match lv[i]? with
  | some Value.null => none
  | some v => some (i, cv ad v)
  | none => none)
theorem lvL_mem {ad : Nat → Nat} {lv : List Value} {q : Nat × Value} : q ∈ lvL ad lv ↔ ∃ v, lv[q.1]? = some v ∧ v ≠ .null ∧ q.2 = cv ad v := by
  unfold lvL
  rw [List.mem_filterMap]
  constructor
  · rintro ⟨i, hi, h⟩
    cases hv : lv[i]? with
    | none => rw [hv] at h; cases h
    | some v =>
      rw [hv] at h
      cases v <;> first | (cases h; done) | (have h := Option.some.inj h; subst h; exact ⟨_, hv, by simp, rfl⟩)
  · rintro ⟨v, hv, hn, hq⟩
    refine ⟨q.1, List.mem_range.mpr (List.getElem?_eq_some_iff.mp hv).1, ?_⟩
    rw [hv]
    cases v <;> first | exact absurd rfl hn | (show some (q.1, _) = some q; rw [← hq])
theorem cv_cat (ad : Nat → Nat) (v : Value) : (cv ad v).category = v.category := by cases v <;> rfl
theorem cv_cats (ad : Nat → Nat) (st : List Value) : ((st.map (cv ad)).map fun v => v.category) = st.map fun v => v.category := by
  rw [List.map_map]; apply List.map_congr_left; intro v _; exact cv_cat ad v
theorem lvL_get {ad : Nat → Nat} {lv : List Value} {ls : Array Slot} {n i : Nat} {v : Value} (hl : lv_has ls n (lvL ad lv)) (hv : lv[i]? = some v) (hn : v ≠ .null) : ls[i]? = some (.val (cv ad v)) := hl.2.2 (i, cv ad v) (lvL_mem.mpr ⟨v, hv, hn, rfl⟩)
theorem lv_less {ls : Array Slot} {n : Nat} {l1 l2 : List (Nat × Value)} (h : lv_has ls n l1) (hs : ∀ q ∈ l2, q ∈ l1) : lv_has ls n l2 := ⟨h.1, h.2.1, fun q hq => h.2.2 q (hs q hq)⟩
/-- nothing of two slots stands just ahead of place i -/
def stOK (lv : List Value) (i : Nat) : Bool := match i with
  | 0 => true
  | j + 1 => match lv[j]? with
    | some (Value.long _) => false
    | some (Value.double _) => false
    | _ => true
theorem stOK_spec {lv : List Value} {i j : Nat} {v : Value} (h : stOK lv i = true) (hv : lv[j]? = some v) (hj : j + 1 = i) : v.category ≠ 2 := by
  subst hj
  unfold stOK at h
  dsimp only at h
  rw [hv] at h
  cases v <;> first | (simp at h; done) | simp [Value.category]
theorem lvL_set {ad : Nat → Nat} {lv : List Value} {i : Nat} {v : Value} (h : stOK lv i = true) : ∀ q ∈ lvL ad (lv.set i v), q ∈ (i, cv ad v) :: (lvL ad lv).filter (fun q => !(q.1 == i) && !(q.1 + 1 == i && q.2.category == 2)) := by
  intro q hq
  obtain ⟨w, hw, hn, e⟩ := lvL_mem.mp hq
  rw [List.getElem?_set] at hw
  by_cases hi : i = q.1
  · rw [if_pos hi] at hw
    by_cases hl : i < lv.length
    · rw [if_pos hl] at hw
      have := Option.some.inj hw
      subst this
      obtain ⟨a, b⟩ := q
      dsimp only at hi e
      subst hi; subst e
      exact List.mem_cons_self
    · rw [if_neg hl] at hw; cases hw
  · rw [if_neg hi] at hw
    refine List.mem_cons_of_mem _ (List.mem_filter.mpr ⟨lvL_mem.mpr ⟨w, hw, hn, e⟩, ?_⟩)
    have h1 : (q.1 == i) = false := by simp; exact fun z => hi z.symm
    rw [h1]
    by_cases hj : q.1 + 1 = i
    · have := stOK_spec h hw hj
      have h2 : (q.2.category == 2) = false := by rw [e, cv_cat]; simpa using this
      rw [h2]; simp
    · have : (q.1 + 1 == i) = false := by simpa using hj
      rw [this]; rfl
theorem lvL_set2 {ad : Nat → Nat} {lv : List Value} {i : Nat} {v : Value} (h : stOK lv i = true) : ∀ q ∈ lvL ad ((lv.set i v).set (i + 1) .null), q ∈ (i, cv ad v) :: (lvL ad lv).filter (fun q => !(q.1 == i) && (!(q.1 == i + 1) && !(q.1 + 1 == i && q.2.category == 2))) := by
  intro q hq
  obtain ⟨w, hw, hn, e⟩ := lvL_mem.mp hq
  rw [List.getElem?_set] at hw
  by_cases hi : i + 1 = q.1
  · rw [if_pos hi] at hw
    split at hw
    · exact absurd (Option.some.inj hw).symm hn
    · cases hw
  · rw [if_neg hi] at hw
    have := lvL_set (ad := ad) (v := v) h q (lvL_mem.mpr ⟨w, hw, hn, e⟩)
    rcases List.mem_cons.mp this with h1 | h1
    · rw [h1]; exact List.mem_cons_self
    · refine List.mem_cons_of_mem _ (List.mem_filter.mpr ⟨(List.mem_filter.mp h1).1, ?_⟩)
      have h2 := (List.mem_filter.mp h1).2
      have h3 : (q.1 == i + 1) = false := by simp; exact fun z => hi z.symm
      rw [h3]
      simpa using h2
def lvX : List Value → List Value
  | [] => []
  | v :: vs => if v.category = 2 then v :: .null :: lvX vs else v :: lvX vs
def lvE (n : Nat) (as : List Value) : List Value := lvX as ++ List.replicate (n - (lvX as).length) .null
theorem lvX_args {ad : Nat → Nat} : ∀ (as : List Value) (off j : Nat) (v : Value), (lvX as)[j]? = some v → v ≠ .null → (off + j, cv ad v) ∈ lv_args off (as.map (cv ad))
  | [], _, _, _, h, _ => by simp [lvX] at h
  | w :: vs, off, j, v, h, hn => by
    unfold lvX at h
    show _ ∈ (off, cv ad w) :: lv_args (if (cv ad w).category = 2 then off + 2 else off + 1) (vs.map (cv ad))
    rw [cv_cat]
    by_cases hc : w.category = 2
    · rw [if_pos hc] at h
      rw [if_pos hc]
      match j with
      | 0 => have := Option.some.inj (show some w = some v from h); subst this; exact List.mem_cons_self
      | 1 => exact absurd (Option.some.inj (show some Value.null = some v from h)).symm hn
      | j + 2 =>
        have h' : (lvX vs)[j]? = some v := by simpa using h
        have := lvX_args (ad := ad) vs (off + 2) j v h' hn
        rw [show off + (j + 2) = off + 2 + j by omega]
        exact List.mem_cons_of_mem _ this
    · rw [if_neg hc] at h
      rw [if_neg hc]
      match j with
      | 0 => have := Option.some.inj (show some w = some v from h); subst this; exact List.mem_cons_self
      | j + 1 =>
        have h' : (lvX vs)[j]? = some v := by simpa using h
        have := lvX_args (ad := ad) vs (off + 1) j v h' hn
        rw [show off + (j + 1) = off + 1 + j by omega]
        exact List.mem_cons_of_mem _ this
theorem lvX_len {ad : Nat → Nat} : ∀ as : List Value, (lg_sl (as.map (cv ad))).length = (lvX as).length
  | [] => rfl
  | v :: vs => by
    have ih := lvX_len (ad := ad) vs
    unfold lg_sl at ih ⊢
    rw [List.map_cons, List.flatMap_cons, cv_cat]
    unfold lvX
    by_cases h : v.category = 2
    · rw [if_pos h, if_pos h]; simp [ih]
    · rw [if_neg h, if_neg h]; simp [ih]
def Go (l : Launch) (D : va_G) (cA ad : Nat → Nat) (d : Nat) (M : Mt) (pc : Nat) (lv st : List Value) (σ : AS) (K : Option Value → AS → Prop) : Prop :=
  ∀ (p : Program) (e : Env) (s : State) (m : MethodId) (args : Array Value) (below : List Frame) (meth : Method) (c : Code) (s₁ : State), BodyLoose p l M.1 (headSpec (wsM M) (rmD d)) M.2.1 M.2.2.1 M.2.2.2 e s m args below meth c s₁ → c.maxLocals = M.2.2.1 → Cx D cA ad s s.heap →
    ∀ (H : Heap) (locs : List Loc) (ls : Array Slot), va_P D cls (wsA ad cA σ) H → va_S (oA ad) s.heap H locs → lv_has ls M.2.2.1 (lvL ad lv) →
      W p l e (rmD d) s m args below meth c H locs 0 0 (MQ below (Qk D cA ad K) args s 0 0 (oA ad)) (F0 m pc ls (st.map (cv ad)))
section GO
variable {l : Launch} {D : va_G} {cA ad : Nat → Nat} {d : Nat} {M : Mt} {pc : Nat} {lv st : List Value} {σ : AS} {K : Option Value → AS → Prop}
theorem call_go {as : List Value} (hy : plainName M.1.cls = true) (hn : (lvX as).length ≤ M.2.2.1) (k : Go l D cA ad d M 0 (lvE M.2.2.1 as) [] σ K) : Call l D cA ad d M as σ K := by
  refine Met.ofW (cc := M.2.1) (maxL := M.2.2.1) (ret := M.2.2.2) hy rfl ?_
  intro p e s m args below meth c s₁ B hml hv
  obtain ⟨rfl, hP, hC⟩ := hv
  rw [lg_entry_eq]
  have hl := lv_entry (as.map (cv ad)) (n := M.2.2.1) (by rw [lvX_len]; exact hn)
  refine k p e s m _ below meth c s₁ B hml hC s.heap [] _ hP va_S.rf (lv_less hl ?_)
  rintro ⟨i, w⟩ hq
  obtain ⟨v, h1, h2, h3⟩ := lvL_mem.mp hq
  dsimp only at h1 h3
  subst h3
  unfold lvE at h1
  by_cases hi : i < (lvX as).length
  · rw [List.getElem?_append_left hi] at h1
    have := lvX_args (ad := ad) as 0 i v h1 h2
    rwa [Nat.zero_add] at this
  · rw [List.getElem?_append_right (Nat.not_lt.mp hi), List.getElem?_replicate] at h1
    split at h1
    · exact absurd (Option.some.inj h1).symm h2
    · cases h1
theorem W_mono {p : Program} {e : Env} {R : Room} {s : State} {m : MethodId} {args : Array Value} {below : List Frame} {meth : Method} {c : Code} {H : Heap} {locs : List Loc} {cells slots : Nat} {Q Q' : State → Prop} {g : JFrame} (h : W p l e R s m args below meth c H locs cells slots Q g) (hQ : ∀ t, Q t → Q' t) : W p l e R s m args below meth c H locs cells slots Q' g := fun T hT X => by
  obtain ⟨t, a, b⟩ := h T hT X
  exact ⟨t, a, hQ t b⟩
theorem go_mono {K' : Option Value → AS → Prop} (h : Go l D cA ad d M pc lv st σ K) (hK : ∀ r σ', K r σ' → K' r σ') : Go l D cA ad d M pc lv st σ K' := by
  intro p e s m args below meth c s₁ B hml hC H locs ls hP hS hl
  refine W_mono (h p e s m args below meth c s₁ B hml hC H locs ls hP hS hl) (fun t ht => ?_)
  obtain ⟨oc, h1, h2, ⟨⟨r, σ', h3, h4, h5⟩, h6⟩, h7⟩ := ht
  exact ⟨oc, h1, h2, ⟨⟨r, σ', h3, hK r σ' h4, h5⟩, h6⟩, h7⟩
theorem call_mono {as : List Value} {K' : Option Value → AS → Prop} (h : Call l D cA ad d M as σ K) (hK : ∀ r σ', K r σ' → K' r σ') : Call l D cA ad d M as σ K' := by
  intro p e h1 h2 h3 s m args below hf hx hP hK2
  obtain ⟨t, o, a1, a2, a3, ⟨⟨r, σ', b1, b2, b3⟩, b4⟩, a5⟩ := h p e h1 h2 h3 s m args below hf hx hP hK2
  exact ⟨t, o, a1, a2, a3, ⟨⟨r, σ', b1, hK r σ' b2, b3⟩, b4⟩, a5⟩
theorem go_iadd {x y : Int32} (hd : decode M.2.1 pc = .ok (.iadd, 1))  (k : Go l D cA ad d M (pc + 1) lv (.int (x + y) :: st) σ K) : Go l D cA ad d M pc lv (.int y :: .int x :: st) σ K := by
  intro p e s m args below meth c s₁ B hml hC H locs ls hP hS hl
  exact lv_iadd B.exec B.bytes hd (k p e s m args below meth c s₁ B hml hC H locs ls hP hS hl)
theorem go_isub {x y : Int32} (hd : decode M.2.1 pc = .ok (.isub, 1))  (k : Go l D cA ad d M (pc + 1) lv (.int (x - y) :: st) σ K) : Go l D cA ad d M pc lv (.int y :: .int x :: st) σ K := by
  intro p e s m args below meth c s₁ B hml hC H locs ls hP hS hl
  exact lv_isub B.exec B.bytes hd (k p e s m args below meth c s₁ B hml hC H locs ls hP hS hl)
theorem go_imul {x y : Int32} (hd : decode M.2.1 pc = .ok (.imul, 1))  (k : Go l D cA ad d M (pc + 1) lv (.int (x * y) :: st) σ K) : Go l D cA ad d M pc lv (.int y :: .int x :: st) σ K := by
  intro p e s m args below meth c s₁ B hml hC H locs ls hP hS hl
  exact lv_imul B.exec B.bytes hd (k p e s m args below meth c s₁ B hml hC H locs ls hP hS hl)
theorem go_iand {x y : Int32} (hd : decode M.2.1 pc = .ok (.iand, 1))  (k : Go l D cA ad d M (pc + 1) lv (.int (x &&& y) :: st) σ K) : Go l D cA ad d M pc lv (.int y :: .int x :: st) σ K := by
  intro p e s m args below meth c s₁ B hml hC H locs ls hP hS hl
  exact lv_iand B.exec B.bytes hd (k p e s m args below meth c s₁ B hml hC H locs ls hP hS hl)
theorem go_ior {x y : Int32} (hd : decode M.2.1 pc = .ok (.ior, 1))  (k : Go l D cA ad d M (pc + 1) lv (.int (x ||| y) :: st) σ K) : Go l D cA ad d M pc lv (.int y :: .int x :: st) σ K := by
  intro p e s m args below meth c s₁ B hml hC H locs ls hP hS hl
  exact lv_ior B.exec B.bytes hd (k p e s m args below meth c s₁ B hml hC H locs ls hP hS hl)
theorem go_ixor {x y : Int32} (hd : decode M.2.1 pc = .ok (.ixor, 1))  (k : Go l D cA ad d M (pc + 1) lv (.int (x ^^^ y) :: st) σ K) : Go l D cA ad d M pc lv (.int y :: .int x :: st) σ K := by
  intro p e s m args below meth c s₁ B hml hC H locs ls hP hS hl
  exact lv_ixor B.exec B.bytes hd (k p e s m args below meth c s₁ B hml hC H locs ls hP hS hl)
theorem go_ishl {x y : Int32} (hd : decode M.2.1 pc = .ok (.ishl, 1))  (k : Go l D cA ad d M (pc + 1) lv (.int (x <<< (y &&& 31)) :: st) σ K) : Go l D cA ad d M pc lv (.int y :: .int x :: st) σ K := by
  intro p e s m args below meth c s₁ B hml hC H locs ls hP hS hl
  exact lv_ishl B.exec B.bytes hd (k p e s m args below meth c s₁ B hml hC H locs ls hP hS hl)
theorem go_ishr {x y : Int32} (hd : decode M.2.1 pc = .ok (.ishr, 1))  (k : Go l D cA ad d M (pc + 1) lv (.int (x >>> (y &&& 31)) :: st) σ K) : Go l D cA ad d M pc lv (.int y :: .int x :: st) σ K := by
  intro p e s m args below meth c s₁ B hml hC H locs ls hP hS hl
  exact lv_ishr B.exec B.bytes hd (k p e s m args below meth c s₁ B hml hC H locs ls hP hS hl)
theorem go_iushr {x y : Int32} (hd : decode M.2.1 pc = .ok (.iushr, 1))  (k : Go l D cA ad d M (pc + 1) lv (.int ((x.toUInt32 >>> (y.toUInt32 &&& Int32.toUInt32 31)).toInt32) :: st) σ K) : Go l D cA ad d M pc lv (.int y :: .int x :: st) σ K := by
  intro p e s m args below meth c s₁ B hml hC H locs ls hP hS hl
  exact lv_iushr B.exec B.bytes hd rfl (k p e s m args below meth c s₁ B hml hC H locs ls hP hS hl)
theorem go_idiv {x y : Int32} (hd : decode M.2.1 pc = .ok (.idiv, 1)) (hne : ¬ y = 0) (k : Go l D cA ad d M (pc + 1) lv (.int (x / y) :: st) σ K) : Go l D cA ad d M pc lv (.int y :: .int x :: st) σ K := by
  intro p e s m args below meth c s₁ B hml hC H locs ls hP hS hl
  exact lv_idiv B.exec B.bytes hd hne (k p e s m args below meth c s₁ B hml hC H locs ls hP hS hl)
theorem go_irem {x y : Int32} (hd : decode M.2.1 pc = .ok (.irem, 1)) (hne : ¬ y = 0) (k : Go l D cA ad d M (pc + 1) lv (.int (x - x / y * y) :: st) σ K) : Go l D cA ad d M pc lv (.int y :: .int x :: st) σ K := by
  intro p e s m args below meth c s₁ B hml hC H locs ls hP hS hl
  exact lv_irem B.exec B.bytes hd hne (k p e s m args below meth c s₁ B hml hC H locs ls hP hS hl)
theorem go_ineg {x : Int32} (hd : decode M.2.1 pc = .ok (.ineg, 1))  (k : Go l D cA ad d M (pc + 1) lv (.int (-x) :: st) σ K) : Go l D cA ad d M pc lv (.int x :: st) σ K := by
  intro p e s m args below meth c s₁ B hml hC H locs ls hP hS hl
  exact lv_ineg B.exec B.bytes hd (k p e s m args below meth c s₁ B hml hC H locs ls hP hS hl)
theorem go_ladd {x y : Int64} (hd : decode M.2.1 pc = .ok (.ladd, 1))  (k : Go l D cA ad d M (pc + 1) lv (.long (x + y) :: st) σ K) : Go l D cA ad d M pc lv (.long y :: .long x :: st) σ K := by
  intro p e s m args below meth c s₁ B hml hC H locs ls hP hS hl
  exact lv_ladd B.exec B.bytes hd (k p e s m args below meth c s₁ B hml hC H locs ls hP hS hl)
theorem go_lsub {x y : Int64} (hd : decode M.2.1 pc = .ok (.lsub, 1))  (k : Go l D cA ad d M (pc + 1) lv (.long (x - y) :: st) σ K) : Go l D cA ad d M pc lv (.long y :: .long x :: st) σ K := by
  intro p e s m args below meth c s₁ B hml hC H locs ls hP hS hl
  exact lv_lsub B.exec B.bytes hd (k p e s m args below meth c s₁ B hml hC H locs ls hP hS hl)
theorem go_lmul {x y : Int64} (hd : decode M.2.1 pc = .ok (.lmul, 1))  (k : Go l D cA ad d M (pc + 1) lv (.long (x * y) :: st) σ K) : Go l D cA ad d M pc lv (.long y :: .long x :: st) σ K := by
  intro p e s m args below meth c s₁ B hml hC H locs ls hP hS hl
  exact lv_lmul B.exec B.bytes hd (k p e s m args below meth c s₁ B hml hC H locs ls hP hS hl)
theorem go_land {x y : Int64} (hd : decode M.2.1 pc = .ok (.land, 1))  (k : Go l D cA ad d M (pc + 1) lv (.long (x &&& y) :: st) σ K) : Go l D cA ad d M pc lv (.long y :: .long x :: st) σ K := by
  intro p e s m args below meth c s₁ B hml hC H locs ls hP hS hl
  exact lv_land B.exec B.bytes hd (k p e s m args below meth c s₁ B hml hC H locs ls hP hS hl)
theorem go_lor {x y : Int64} (hd : decode M.2.1 pc = .ok (.lor, 1))  (k : Go l D cA ad d M (pc + 1) lv (.long (x ||| y) :: st) σ K) : Go l D cA ad d M pc lv (.long y :: .long x :: st) σ K := by
  intro p e s m args below meth c s₁ B hml hC H locs ls hP hS hl
  exact lv_lor B.exec B.bytes hd (k p e s m args below meth c s₁ B hml hC H locs ls hP hS hl)
theorem go_ldiv {x y : Int64} (hd : decode M.2.1 pc = .ok (.ldiv, 1)) (hne : ¬ y = 0) (k : Go l D cA ad d M (pc + 1) lv (.long (x / y) :: st) σ K) : Go l D cA ad d M pc lv (.long y :: .long x :: st) σ K := by
  intro p e s m args below meth c s₁ B hml hC H locs ls hP hS hl
  exact lv_ldiv B.exec B.bytes hd hne (k p e s m args below meth c s₁ B hml hC H locs ls hP hS hl)
theorem go_lrem {x y : Int64} (hd : decode M.2.1 pc = .ok (.lrem, 1)) (hne : ¬ y = 0) (k : Go l D cA ad d M (pc + 1) lv (.long (x - x / y * y) :: st) σ K) : Go l D cA ad d M pc lv (.long y :: .long x :: st) σ K := by
  intro p e s m args below meth c s₁ B hml hC H locs ls hP hS hl
  exact lv_lrem B.exec B.bytes hd hne (k p e s m args below meth c s₁ B hml hC H locs ls hP hS hl)
theorem go_lshl {x : Int64} {y : Int32} (hd : decode M.2.1 pc = .ok (.lshl, 1))  (k : Go l D cA ad d M (pc + 1) lv (.long (x <<< (y.toInt64 &&& 63)) :: st) σ K) : Go l D cA ad d M pc lv (.int y :: .long x :: st) σ K := by
  intro p e s m args below meth c s₁ B hml hC H locs ls hP hS hl
  exact lv_lshl B.exec B.bytes hd rfl (k p e s m args below meth c s₁ B hml hC H locs ls hP hS hl)
theorem go_lushr {x : Int64} {y : Int32} (hd : decode M.2.1 pc = .ok (.lushr, 1))  (k : Go l D cA ad d M (pc + 1) lv (.long ((x.toUInt64 >>> (y.toInt64.toUInt64 &&& Int64.toUInt64 63)).toInt64) :: st) σ K) : Go l D cA ad d M pc lv (.int y :: .long x :: st) σ K := by
  intro p e s m args below meth c s₁ B hml hC H locs ls hP hS hl
  exact lv_lushr B.exec B.bytes hd rfl (k p e s m args below meth c s₁ B hml hC H locs ls hP hS hl)
theorem go_lcmp {x y : Int64} (hd : decode M.2.1 pc = .ok (.lcmp, 1))  (k : Go l D cA ad d M (pc + 1) lv (.int (lg_cmp x y) :: st) σ K) : Go l D cA ad d M pc lv (.long y :: .long x :: st) σ K := by
  intro p e s m args below meth c s₁ B hml hC H locs ls hP hS hl
  exact W.lcmp B.exec B.bytes hd (k p e s m args below meth c s₁ B hml hC H locs ls hP hS hl)
theorem go_i2l {x : Int32} (hd : decode M.2.1 pc = .ok (.i2l, 1))  (k : Go l D cA ad d M (pc + 1) lv (.long x.toInt64 :: st) σ K) : Go l D cA ad d M pc lv (.int x :: st) σ K := by
  intro p e s m args below meth c s₁ B hml hC H locs ls hP hS hl
  exact lv_i2l B.exec B.bytes hd rfl (k p e s m args below meth c s₁ B hml hC H locs ls hP hS hl)
theorem go_l2i {x : Int64} (hd : decode M.2.1 pc = .ok (.l2i, 1))  (k : Go l D cA ad d M (pc + 1) lv (.int x.toInt32 :: st) σ K) : Go l D cA ad d M pc lv (.long x :: st) σ K := by
  intro p e s m args below meth c s₁ B hml hC H locs ls hP hS hl
  exact lv_l2i B.exec B.bytes hd rfl (k p e s m args below meth c s₁ B hml hC H locs ls hP hS hl)
theorem go_i2b {x : Int32} (hd : decode M.2.1 pc = .ok (.i2b, 1))  (k : Go l D cA ad d M (pc + 1) lv (.int x.toInt8.toInt32 :: st) σ K) : Go l D cA ad d M pc lv (.int x :: st) σ K := by
  intro p e s m args below meth c s₁ B hml hC H locs ls hP hS hl
  exact lv_i2b B.exec B.bytes hd rfl (k p e s m args below meth c s₁ B hml hC H locs ls hP hS hl)
theorem go_i2c {x : Int32} (hd : decode M.2.1 pc = .ok (.i2c, 1))  (k : Go l D cA ad d M (pc + 1) lv (.int (x.toUInt32 % 65536).toInt32 :: st) σ K) : Go l D cA ad d M pc lv (.int x :: st) σ K := by
  intro p e s m args below meth c s₁ B hml hC H locs ls hP hS hl
  exact lv_i2c B.exec B.bytes hd rfl (k p e s m args below meth c s₁ B hml hC H locs ls hP hS hl)
theorem go_iconst {n : Int} {v : Int32} (hd : decode M.2.1 pc = .ok (.iconst n, 1)) (hv : Int32.ofInt n = v) (k : Go l D cA ad d M (pc + 1) lv (.int v :: st) σ K) : Go l D cA ad d M pc lv st σ K := by
  intro p e s m args below meth c s₁ B hml hC H locs ls hP hS hl
  exact lv_iconst B.exec B.bytes hd hv (k p e s m args below meth c s₁ B hml hC H locs ls hP hS hl)
theorem go_bipush {n : Int} {v : Int32} (hd : decode M.2.1 pc = .ok (.bipush n, 2)) (hv : (Int8.ofInt n).toInt32 = v) (k : Go l D cA ad d M (pc + 2) lv (.int v :: st) σ K) : Go l D cA ad d M pc lv st σ K := by
  intro p e s m args below meth c s₁ B hml hC H locs ls hP hS hl
  exact lv_bipush B.exec B.bytes hd hv (k p e s m args below meth c s₁ B hml hC H locs ls hP hS hl)
theorem go_sipush {n : Int} {v : Int32} (hd : decode M.2.1 pc = .ok (.sipush n, 3)) (hv : (Int16.ofInt n).toInt32 = v) (k : Go l D cA ad d M (pc + 3) lv (.int v :: st) σ K) : Go l D cA ad d M pc lv st σ K := by
  intro p e s m args below meth c s₁ B hml hC H locs ls hP hS hl
  exact lv_sipush B.exec B.bytes hd hv (k p e s m args below meth c s₁ B hml hC H locs ls hP hS hl)
theorem go_lconst {n : Fin 2} {v : Int64} (hd : decode M.2.1 pc = .ok (.lconst n, 1)) (hv : Int64.ofNat (n : Nat) = v) (k : Go l D cA ad d M (pc + 1) lv (.long v :: st) σ K) : Go l D cA ad d M pc lv st σ K := by
  intro p e s m args below meth c s₁ B hml hC H locs ls hP hS hl
  exact lv_lconst B.exec B.bytes hd hv (k p e s m args below meth c s₁ B hml hC H locs ls hP hS hl)
theorem go_pop {v : Value} (hd : decode M.2.1 pc = .ok (.pop, 1)) (hv : v.category = 1) (k : Go l D cA ad d M (pc + 1) lv st σ K) : Go l D cA ad d M pc lv (v :: st) σ K := by
  intro p e s m args below meth c s₁ B hml hC H locs ls hP hS hl
  exact lv_pop B.exec B.bytes hd (by rw [cv_cat]; exact hv) (k p e s m args below meth c s₁ B hml hC H locs ls hP hS hl)
theorem go_dup {v : Value} (hd : decode M.2.1 pc = .ok (.dup, 1)) (hv : v.category = 1) (k : Go l D cA ad d M (pc + 1) lv (v :: v :: st) σ K) : Go l D cA ad d M pc lv (v :: st) σ K := by
  intro p e s m args below meth c s₁ B hml hC H locs ls hP hS hl
  exact lv_dup B.exec B.bytes hd (by rw [cv_cat]; exact hv) (k p e s m args below meth c s₁ B hml hC H locs ls hP hS hl)
theorem go_dup2 {v w : Value} (hd : decode M.2.1 pc = .ok (.dup2, 1)) (hv : v.category = 1) (hw : w.category = 1) (k : Go l D cA ad d M (pc + 1) lv (v :: w :: v :: w :: st) σ K) : Go l D cA ad d M pc lv (v :: w :: st) σ K := by
  intro p e s m args below meth c s₁ B hml hC H locs ls hP hS hl
  exact lv_dup2_11 B.exec B.bytes hd (by rw [cv_cat]; exact hv) (by rw [cv_cat]; exact hw) (k p e s m args below meth c s₁ B hml hC H locs ls hP hS hl)
theorem go_iload {i : Nat} {x : Int32} (hd : decode M.2.1 pc = .ok (.iload i, 2)) (hv : lv[i]? = some (.int x)) (k : Go l D cA ad d M (pc + 2) lv (.int x :: st) σ K) : Go l D cA ad d M pc lv st σ K := by
  intro p e s m args below meth c s₁ B hml hC H locs ls hP hS hl
  exact lv_iload B.exec B.bytes hd (lvL_get hl hv (by simp)) (k p e s m args below meth c s₁ B hml hC H locs ls hP hS hl)
theorem go_iload_n {n : Fin 4} {x : Int32} (hd : decode M.2.1 pc = .ok (.iload_n n, 1)) (hv : lv[(n : Nat)]? = some (.int x)) (k : Go l D cA ad d M (pc + 1) lv (.int x :: st) σ K) : Go l D cA ad d M pc lv st σ K := by
  intro p e s m args below meth c s₁ B hml hC H locs ls hP hS hl
  exact lv_iload_n B.exec B.bytes hd rfl (lvL_get hl hv (by simp)) (k p e s m args below meth c s₁ B hml hC H locs ls hP hS hl)
theorem go_lload {i : Nat} {x : Int64} (hd : decode M.2.1 pc = .ok (.lload i, 2)) (hv : lv[i]? = some (.long x)) (k : Go l D cA ad d M (pc + 2) lv (.long x :: st) σ K) : Go l D cA ad d M pc lv st σ K := by
  intro p e s m args below meth c s₁ B hml hC H locs ls hP hS hl
  exact lv_lload B.exec B.bytes hd (lvL_get hl hv (by simp)) (k p e s m args below meth c s₁ B hml hC H locs ls hP hS hl)
theorem go_lload_n {n : Fin 4} {x : Int64} (hd : decode M.2.1 pc = .ok (.lload_n n, 1)) (hv : lv[(n : Nat)]? = some (.long x)) (k : Go l D cA ad d M (pc + 1) lv (.long x :: st) σ K) : Go l D cA ad d M pc lv st σ K := by
  intro p e s m args below meth c s₁ B hml hC H locs ls hP hS hl
  exact lv_lload_n B.exec B.bytes hd rfl (lvL_get hl hv (by simp)) (k p e s m args below meth c s₁ B hml hC H locs ls hP hS hl)
theorem go_aload {i : Nat} {x : Nat} (hd : decode M.2.1 pc = .ok (.aload i, 2)) (hv : lv[i]? = some (.ref x)) (k : Go l D cA ad d M (pc + 2) lv (.ref x :: st) σ K) : Go l D cA ad d M pc lv st σ K := by
  intro p e s m args below meth c s₁ B hml hC H locs ls hP hS hl
  exact lv_aload B.exec B.bytes hd (lvL_get hl hv (by simp)) (k p e s m args below meth c s₁ B hml hC H locs ls hP hS hl)
theorem go_aload_n {n : Fin 4} {x : Nat} (hd : decode M.2.1 pc = .ok (.aload_n n, 1)) (hv : lv[(n : Nat)]? = some (.ref x)) (k : Go l D cA ad d M (pc + 1) lv (.ref x :: st) σ K) : Go l D cA ad d M pc lv st σ K := by
  intro p e s m args below meth c s₁ B hml hC H locs ls hP hS hl
  exact lv_aload_n B.exec B.bytes hd rfl (lvL_get hl hv (by simp)) (k p e s m args below meth c s₁ B hml hC H locs ls hP hS hl)
theorem go_istore {i : Nat} {x : Int32} (hd : decode M.2.1 pc = .ok (.istore i, 2)) (hi : i < M.2.2.1) (hs : stOK lv i = true) (k : Go l D cA ad d M (pc + 2) (lv.set i (.int x)) st σ K) : Go l D cA ad d M pc lv (.int x :: st) σ K := by
  intro p e s m args below meth c s₁ B hml hC H locs ls hP hS hl
  exact lv_istore B.exec B.bytes hd hl hi rfl (fun ls hl => k p e s m args below meth c s₁ B hml hC H locs ls hP hS (lv_less hl (lvL_set hs)))
theorem go_istore_n {n : Fin 4} {x : Int32} (hd : decode M.2.1 pc = .ok (.istore_n n, 1)) (hi : (n : Nat) < M.2.2.1) (hs : stOK lv (n : Nat) = true) (k : Go l D cA ad d M (pc + 1) (lv.set (n : Nat) (.int x)) st σ K) : Go l D cA ad d M pc lv (.int x :: st) σ K := by
  intro p e s m args below meth c s₁ B hml hC H locs ls hP hS hl
  exact lv_istore_n B.exec B.bytes hd rfl hl hi rfl (fun ls hl => k p e s m args below meth c s₁ B hml hC H locs ls hP hS (lv_less hl (lvL_set hs)))
theorem go_lstore {i : Nat} {x : Int64} (hd : decode M.2.1 pc = .ok (.lstore i, 2)) (hi : i + 1 < M.2.2.1) (hs : stOK lv i = true) (k : Go l D cA ad d M (pc + 2) ((lv.set i (.long x)).set (i + 1) .null) st σ K) : Go l D cA ad d M pc lv (.long x :: st) σ K := by
  intro p e s m args below meth c s₁ B hml hC H locs ls hP hS hl
  exact lv_lstore B.exec B.bytes hd hl hi rfl (fun ls hl => k p e s m args below meth c s₁ B hml hC H locs ls hP hS (lv_less hl (lvL_set2 hs)))
theorem go_lstore_n {n : Fin 4} {x : Int64} (hd : decode M.2.1 pc = .ok (.lstore_n n, 1)) (hi : (n : Nat) + 1 < M.2.2.1) (hs : stOK lv (n : Nat) = true) (k : Go l D cA ad d M (pc + 1) ((lv.set (n : Nat) (.long x)).set ((n : Nat) + 1) .null) st σ K) : Go l D cA ad d M pc lv (.long x :: st) σ K := by
  intro p e s m args below meth c s₁ B hml hC H locs ls hP hS hl
  exact lv_lstore_n B.exec B.bytes hd rfl hl hi rfl (fun ls hl => k p e s m args below meth c s₁ B hml hC H locs ls hP hS (lv_less hl (lvL_set2 hs)))
theorem go_astore {i : Nat} {x : Nat} (hd : decode M.2.1 pc = .ok (.astore i, 2)) (hi : i < M.2.2.1) (hs : stOK lv i = true) (k : Go l D cA ad d M (pc + 2) (lv.set i (.ref x)) st σ K) : Go l D cA ad d M pc lv (.ref x :: st) σ K := by
  intro p e s m args below meth c s₁ B hml hC H locs ls hP hS hl
  exact lv_astore B.exec B.bytes hd hl hi rfl (fun ls hl => k p e s m args below meth c s₁ B hml hC H locs ls hP hS (lv_less hl (lvL_set hs)))
theorem go_astore_n {n : Fin 4} {x : Nat} (hd : decode M.2.1 pc = .ok (.astore_n n, 1)) (hi : (n : Nat) < M.2.2.1) (hs : stOK lv (n : Nat) = true) (k : Go l D cA ad d M (pc + 1) (lv.set (n : Nat) (.ref x)) st σ K) : Go l D cA ad d M pc lv (.ref x :: st) σ K := by
  intro p e s m args below meth c s₁ B hml hC H locs ls hP hS hl
  exact lv_astore_n B.exec B.bytes hd rfl hl hi rfl (fun ls hl => k p e s m args below meth c s₁ B hml hC H locs ls hP hS (lv_less hl (lvL_set hs)))
theorem go_iinc {i : Nat} {n : Int} {x : Int32} (hd : decode M.2.1 pc = .ok (.iinc i n, 3)) (hv : lv[i]? = some (.int x)) (hi : i < M.2.2.1) (hs : stOK lv i = true) (k : Go l D cA ad d M (pc + 3) (lv.set i (.int (x + Int32.ofInt n))) st σ K) : Go l D cA ad d M pc lv st σ K := by
  intro p e s m args below meth c s₁ B hml hC H locs ls hP hS hl
  obtain ⟨q, hq⟩ := List.getElem?_of_mem (lvL_mem (ad := ad).mpr ⟨.int x, hv, by simp, rfl⟩ : ((i, cv ad (.int x)) : Nat × Value) ∈ lvL ad lv)
  exact lv_iinc (k := q) B.exec B.bytes hd hl hq rfl hi rfl (fun ls hl => k p e s m args below meth c s₁ B hml hC H locs ls hP hS (lv_less hl (lvL_set hs)))
theorem go_if_eq {x : Int32} {off : Int} {tgt : Nat} (hd : decode M.2.1 pc = .ok (.ifCond .eq off, 3)) (ht : (pc : Int) + off = (tgt : Int)) (kt : x = 0 → Go l D cA ad d M tgt lv st σ K) (kf : ¬ x = 0 → Go l D cA ad d M (pc + 3) lv st σ K) : Go l D cA ad d M pc lv (.int x :: st) σ K := by
  intro p e s m args below meth c s₁ B hml hC H locs ls hP hS hl
  exact lv_if_eq B.exec B.bytes hd ht (fun h => kt h p e s m args below meth c s₁ B hml hC H locs ls hP hS hl) (fun h => kf h p e s m args below meth c s₁ B hml hC H locs ls hP hS hl)
theorem go_icmp_eq {x y : Int32} {off : Int} {tgt : Nat} (hd : decode M.2.1 pc = .ok (.if_icmp .eq off, 3)) (ht : (pc : Int) + off = (tgt : Int)) (kt : x = y → Go l D cA ad d M tgt lv st σ K) (kf : ¬ x = y → Go l D cA ad d M (pc + 3) lv st σ K) : Go l D cA ad d M pc lv (.int y :: .int x :: st) σ K := by
  intro p e s m args below meth c s₁ B hml hC H locs ls hP hS hl
  exact lv_icmp_eq B.exec B.bytes hd ht (fun h => kt h p e s m args below meth c s₁ B hml hC H locs ls hP hS hl) (fun h => kf h p e s m args below meth c s₁ B hml hC H locs ls hP hS hl)
theorem go_if_ne {x : Int32} {off : Int} {tgt : Nat} (hd : decode M.2.1 pc = .ok (.ifCond .ne off, 3)) (ht : (pc : Int) + off = (tgt : Int)) (kt : ¬ x = 0 → Go l D cA ad d M tgt lv st σ K) (kf : x = 0 → Go l D cA ad d M (pc + 3) lv st σ K) : Go l D cA ad d M pc lv (.int x :: st) σ K := by
  intro p e s m args below meth c s₁ B hml hC H locs ls hP hS hl
  exact lv_if_ne B.exec B.bytes hd ht (fun h => kt h p e s m args below meth c s₁ B hml hC H locs ls hP hS hl) (fun h => kf h p e s m args below meth c s₁ B hml hC H locs ls hP hS hl)
theorem go_icmp_ne {x y : Int32} {off : Int} {tgt : Nat} (hd : decode M.2.1 pc = .ok (.if_icmp .ne off, 3)) (ht : (pc : Int) + off = (tgt : Int)) (kt : ¬ x = y → Go l D cA ad d M tgt lv st σ K) (kf : x = y → Go l D cA ad d M (pc + 3) lv st σ K) : Go l D cA ad d M pc lv (.int y :: .int x :: st) σ K := by
  intro p e s m args below meth c s₁ B hml hC H locs ls hP hS hl
  exact lv_icmp_ne B.exec B.bytes hd ht (fun h => kt h p e s m args below meth c s₁ B hml hC H locs ls hP hS hl) (fun h => kf h p e s m args below meth c s₁ B hml hC H locs ls hP hS hl)
theorem go_if_lt {x : Int32} {off : Int} {tgt : Nat} (hd : decode M.2.1 pc = .ok (.ifCond .lt off, 3)) (ht : (pc : Int) + off = (tgt : Int)) (kt : x < 0 → Go l D cA ad d M tgt lv st σ K) (kf : ¬ x < 0 → Go l D cA ad d M (pc + 3) lv st σ K) : Go l D cA ad d M pc lv (.int x :: st) σ K := by
  intro p e s m args below meth c s₁ B hml hC H locs ls hP hS hl
  exact lv_if_lt B.exec B.bytes hd ht (fun h => kt h p e s m args below meth c s₁ B hml hC H locs ls hP hS hl) (fun h => kf h p e s m args below meth c s₁ B hml hC H locs ls hP hS hl)
theorem go_icmp_lt {x y : Int32} {off : Int} {tgt : Nat} (hd : decode M.2.1 pc = .ok (.if_icmp .lt off, 3)) (ht : (pc : Int) + off = (tgt : Int)) (kt : x < y → Go l D cA ad d M tgt lv st σ K) (kf : ¬ x < y → Go l D cA ad d M (pc + 3) lv st σ K) : Go l D cA ad d M pc lv (.int y :: .int x :: st) σ K := by
  intro p e s m args below meth c s₁ B hml hC H locs ls hP hS hl
  exact lv_icmp_lt B.exec B.bytes hd ht (fun h => kt h p e s m args below meth c s₁ B hml hC H locs ls hP hS hl) (fun h => kf h p e s m args below meth c s₁ B hml hC H locs ls hP hS hl)
theorem go_if_ge {x : Int32} {off : Int} {tgt : Nat} (hd : decode M.2.1 pc = .ok (.ifCond .ge off, 3)) (ht : (pc : Int) + off = (tgt : Int)) (kt : 0 ≤ x → Go l D cA ad d M tgt lv st σ K) (kf : ¬ 0 ≤ x → Go l D cA ad d M (pc + 3) lv st σ K) : Go l D cA ad d M pc lv (.int x :: st) σ K := by
  intro p e s m args below meth c s₁ B hml hC H locs ls hP hS hl
  exact lv_if_ge B.exec B.bytes hd ht (fun h => kt h p e s m args below meth c s₁ B hml hC H locs ls hP hS hl) (fun h => kf h p e s m args below meth c s₁ B hml hC H locs ls hP hS hl)
theorem go_icmp_ge {x y : Int32} {off : Int} {tgt : Nat} (hd : decode M.2.1 pc = .ok (.if_icmp .ge off, 3)) (ht : (pc : Int) + off = (tgt : Int)) (kt : y ≤ x → Go l D cA ad d M tgt lv st σ K) (kf : ¬ y ≤ x → Go l D cA ad d M (pc + 3) lv st σ K) : Go l D cA ad d M pc lv (.int y :: .int x :: st) σ K := by
  intro p e s m args below meth c s₁ B hml hC H locs ls hP hS hl
  exact lv_icmp_ge B.exec B.bytes hd ht (fun h => kt h p e s m args below meth c s₁ B hml hC H locs ls hP hS hl) (fun h => kf h p e s m args below meth c s₁ B hml hC H locs ls hP hS hl)
theorem go_if_gt {x : Int32} {off : Int} {tgt : Nat} (hd : decode M.2.1 pc = .ok (.ifCond .gt off, 3)) (ht : (pc : Int) + off = (tgt : Int)) (kt : 0 < x → Go l D cA ad d M tgt lv st σ K) (kf : ¬ 0 < x → Go l D cA ad d M (pc + 3) lv st σ K) : Go l D cA ad d M pc lv (.int x :: st) σ K := by
  intro p e s m args below meth c s₁ B hml hC H locs ls hP hS hl
  exact lv_if_gt B.exec B.bytes hd ht (fun h => kt h p e s m args below meth c s₁ B hml hC H locs ls hP hS hl) (fun h => kf h p e s m args below meth c s₁ B hml hC H locs ls hP hS hl)
theorem go_icmp_gt {x y : Int32} {off : Int} {tgt : Nat} (hd : decode M.2.1 pc = .ok (.if_icmp .gt off, 3)) (ht : (pc : Int) + off = (tgt : Int)) (kt : y < x → Go l D cA ad d M tgt lv st σ K) (kf : ¬ y < x → Go l D cA ad d M (pc + 3) lv st σ K) : Go l D cA ad d M pc lv (.int y :: .int x :: st) σ K := by
  intro p e s m args below meth c s₁ B hml hC H locs ls hP hS hl
  exact lv_icmp_gt B.exec B.bytes hd ht (fun h => kt h p e s m args below meth c s₁ B hml hC H locs ls hP hS hl) (fun h => kf h p e s m args below meth c s₁ B hml hC H locs ls hP hS hl)
theorem go_if_le {x : Int32} {off : Int} {tgt : Nat} (hd : decode M.2.1 pc = .ok (.ifCond .le off, 3)) (ht : (pc : Int) + off = (tgt : Int)) (kt : x ≤ 0 → Go l D cA ad d M tgt lv st σ K) (kf : ¬ x ≤ 0 → Go l D cA ad d M (pc + 3) lv st σ K) : Go l D cA ad d M pc lv (.int x :: st) σ K := by
  intro p e s m args below meth c s₁ B hml hC H locs ls hP hS hl
  exact lv_if_le B.exec B.bytes hd ht (fun h => kt h p e s m args below meth c s₁ B hml hC H locs ls hP hS hl) (fun h => kf h p e s m args below meth c s₁ B hml hC H locs ls hP hS hl)
theorem go_icmp_le {x y : Int32} {off : Int} {tgt : Nat} (hd : decode M.2.1 pc = .ok (.if_icmp .le off, 3)) (ht : (pc : Int) + off = (tgt : Int)) (kt : x ≤ y → Go l D cA ad d M tgt lv st σ K) (kf : ¬ x ≤ y → Go l D cA ad d M (pc + 3) lv st σ K) : Go l D cA ad d M pc lv (.int y :: .int x :: st) σ K := by
  intro p e s m args below meth c s₁ B hml hC H locs ls hP hS hl
  exact lv_icmp_le B.exec B.bytes hd ht (fun h => kt h p e s m args below meth c s₁ B hml hC H locs ls hP hS hl) (fun h => kf h p e s m args below meth c s₁ B hml hC H locs ls hP hS hl)
theorem go_goto {off : Int} {tgt : Nat} (hd : decode M.2.1 pc = .ok (.goto off, 3)) (ht : (pc : Int) + off = (tgt : Int)) (k : Go l D cA ad d M tgt lv st σ K) : Go l D cA ad d M pc lv st σ K := by
  intro p e s m args below meth c s₁ B hml hC H locs ls hP hS hl
  exact lv_goto B.exec B.bytes hd ht (k p e s m args below meth c s₁ B hml hC H locs ls hP hS hl)
end GO
