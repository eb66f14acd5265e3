/-! acts: what changes the waters -/
def upX (X : XS) (w : WT) (lg : LG) (ac : List WT) : XS := (xt X, xs X, w, lg, ac, xi X, xm X, xL X, xh X, xp X, xo X, xk X)
def remX (X : XS) : XS := upX X (xw X) (xl X) ((xw X :: xa X).take 40)
def setW (X : XS) (w : WT) : XS := upX X w (xl X) (xa X)
def dayX (X : XS) (rain : Int) : XS := upX X (dayF (xs X) (xv X) rain (xw X)) (addL (xl X) (dy (xw X)) (enF (xs X) (dayF (xs X) (xv X) rain (xw X)))) (xa X)
/-- just remembered: the latest act kept has today's date -/
def HdX (X : XS) : Prop := ∃ a l, xa X = a :: l ∧ dy a = dy (xw X)
theorem AcK_rem {s : PS} {w : WT} {ac : List WT} (h : AcK s w ac) (hw : WK s w) : AcK s w ((w :: ac).take 40) := by
  refine ⟨by rw [List.length_take]; omega, Chn_take 40 (w :: ac) w ⟨Nat.le_refl _, by omega, h.2.1⟩, fun a ha => ?_⟩
  rcases List.mem_cons.mp (List.mem_of_mem_take ha) with e | e
  · rw [e]; exact hw
  · exact h.2.2 a e
theorem XK_rem {X : XS} (h : XK X) : XK (remX X) := ⟨h.t, h.s, h.w, h.d, AcK_rem h.a h.w, h.i, h.m, h.L, h.p, h.o, h.k⟩
theorem Hd_rem (X : XS) : HdX (remX X) := ⟨xw X, (xa X).take 39, by show (xw X :: xa X).take 40 = _; rfl, rfl⟩
theorem Chn_dy {w w' : WT} {ac : List WT} (h : Chn w ac) (e : dy w' = dy w) : Chn w' ac := by
  cases ac with
  | nil => trivial
  | cons a l => exact ⟨by rw [e]; exact h.1, by rw [e]; exact h.2.1, h.2.2⟩
theorem XK_set {X : XS} (h : XK X) {w : WT} (hw : WK (xs X) w) (e : dy w = dy (xw X)) : XK (setW X w) := ⟨h.t, h.s, hw, by show dy w ≤ 9999; rw [e]; exact h.d, ⟨h.a.1, Chn_dy h.a.2.1 e, h.a.2.2⟩, h.i, h.m, h.L, h.p, h.o, h.k⟩
theorem Hd_set {X : XS} (h : HdX X) {w : WT} (e : dy w = dy (xw X)) : HdX (setW X w) := by
  obtain ⟨a, l, h1, h2⟩ := h
  exact ⟨a, l, h1, by rw [h2]; exact e.symm⟩
theorem dayX_ok {X : XS} (h : XK X) {rain : Int} (hr : 0 ≤ rain) : WK (xs X) (dayF (xs X) (xv X) rain (xw X)) ∧ opn (dayF (xs X) (xv X) rain (xw X)) = opn (xw X) ∧ dy (dayF (xs X) (xv X) rain (xw X)) = dy (xw X) + 1 := dayF_ok h.s h.w hr (by have := h.d; omega)
theorem XK_day {X : XS} (h : XK X) (hd : HdX X) {rain : Int} (hr : 0 ≤ rain) (hl : dy (xw X) < 9999) : XK (dayX X rain) := by
  have ho := dayX_ok h hr
  obtain ⟨a, l, h1, h2⟩ := hd
  refine ⟨h.t, h.s, ho.1, by show dy (dayF _ _ _ _) ≤ 9999; rw [ho.2.2]; omega, ⟨h.a.1, ?_, h.a.2.2⟩, h.i, h.m, h.L, h.p, h.o, h.k⟩
  show Chn (dayF _ _ _ _) (xa X)
  have hc := h.a.2.1
  rw [h1] at hc ⊢
  exact ⟨by rw [ho.2.2]; omega, by rw [ho.2.2]; omega, hc.2.2⟩
theorem Hd_get {X : XS} (h : XK X) (hd : HdX X) {a : WT} (ha : a ∈ xa X) : dy a ≤ dy (xw X) ∧ dy (xw X) ≤ dy a + 39 := by
  obtain ⟨b, l, h1, h2⟩ := hd
  have hc := h.a.2.1
  have hlen := h.a.1
  rw [h1] at ha hc hlen
  rw [List.length_cons] at hlen
  rcases List.mem_cons.mp ha with e | e
  · rw [e]; omega
  · obtain ⟨j, hj⟩ := List.getElem?_of_mem e
    have hjl := (List.getElem?_eq_some_iff.mp hj).1
    have := Chn_get l b j a hc.2.2 hj
    omega
theorem CI.up {σ τ : AS} {X : XS} {w : WT} {lg : LG} {ac : List WT} (hC : CI σ X) (hK : XK X) (e : ∀ k, uC k → k < 87 ∨ 94 < k → τ.1 k = σ.1 k) (e1 : τ.1 1 = σ.1 1) (hW : WC τ 87 w) (hch : ChC τ w ac lg) (hA : AcC τ ac) : CI τ (upX X w lg ac) := by
  obtain ⟨c1, c2, c3, c4, c5, c6, c7, c8, c9, c10, c11⟩ := hC
  have e0 := e 0 (by unfold uC; omega) (by omega)
  exact ⟨⟨by rw [e1]; exact c1.1, fun i b hb => by rw [e 2 (by unfold uC; omega) (by omega)]; exact c1.2 i b hb⟩, TwC_fr c2 hK.s.1 hK.s.2.1 (fun k a b => e k (by unfold uC; omega) (by omega)), hW, hch, hA, ImC_fr c6 (by rw [e0]) (fun k a b => e k (by unfold uC; omega) (by omega)), MsC_fr c7 (fun k a b => e k (by unfold uC; omega) (by omega)), LsC_fr c8 hK.L.1 (fun k a => e k (by unfold uC; omega) (by omega)), PsC_fr c9 hK.p.1 (by rw [e0]) (fun k a b => e k (by unfold uC; omega) (by omega)), by rw [e0]; exact c10, by rw [e0]; exact c11⟩
theorem CI_rem {σ τ : AS} {X : XS} (hC : CI σ X) (hK : XK X) (fs : FrS [93, 94] σ τ) (hA : AcC τ ((xw X :: xa X).take 40)) : CI τ (remX X) := by
  refine hC.up hK (fun k hk h => fs.2 k (by simp only [List.mem_cons, List.not_mem_nil, or_false]; omega)) (fs.2 1 (by decide)) (WC_fr hC.2.2.1 (fun k h1 h2 => fs.2 k (by simp only [List.mem_cons, List.not_mem_nil, or_false]; omega))) ⟨by rw [fs.2 91 (by decide)]; exact hC.2.2.2.1.1, fun a ha => ?_⟩ hA
  rw [fs.2 92 (by decide)]
  refine hC.2.2.2.1.2 a ?_
  rcases List.mem_cons.mp ha with h | h
  · rw [h]; exact List.mem_cons_self ..
  · exact List.mem_of_mem_take h
theorem CI_set {σ τ : AS} {X : XS} {w : WT} (hC : CI σ X) (hK : XK X) (fr : Fr 87 90 σ τ) (hW : WC τ 87 w) (e : dy w = dy (xw X)) : CI τ (setW X w) := by
  refine hC.up hK (fun k hk h => fr.2 k (by omega)) (fr.2 1 (by omega)) hW ⟨by rw [fr.2 91 (by omega), e]; exact hC.2.2.2.1.1, fun a ha => ?_⟩ (AcC_fr hC.2.2.2.2.1 (fr.2 93 (by omega)) (fr.2 94 (by omega)))
  rw [fr.2 92 (by omega)]
  rcases List.mem_cons.mp ha with h | h
  · rw [h]
    have := hC.2.2.2.1.2 (xw X) (List.mem_cons_self ..)
    intro i k h1 h2 h3
    rw [e] at h1 h2
    exact this i k h1 h2 h3
  · exact hC.2.2.2.1.2 a (List.mem_cons_of_mem _ h)
theorem CI_day {σ τ : AS} {X : XS} {rain : Int} (hC : CI σ X) (hK : XK X) (hd : HdX X) (hr : 0 ≤ rain) (fs : FrS [52, 53, 56, 57, 60, 61, 64, 65, 87, 88, 89, 90, 91, 92] σ τ) (hW : WC τ 87 (dayF (xs X) (xv X) rain (xw X))) (h1 : τ.1 91 0 = iI ((dy (xw X) : Int) + 1)) (h2 : ∀ k, k < 3 → τ.1 92 (3 * (dy (xw X) % 100) + k) = iI (enF (xs X) (dayF (xs X) (xv X) rain (xw X)) k)) (h3 : ∀ j, (∀ k, k < 3 → j ≠ 3 * (dy (xw X) % 100) + k) → τ.1 92 j = σ.1 92 j) : CI τ (dayX X rain) := by
  have ho := dayX_ok hK hr
  refine hC.up hK (fun k hk h => fs.2 k (by unfold uC at hk; simp only [List.mem_cons, List.not_mem_nil, or_false]; omega)) (fs.2 1 (by decide)) hW ⟨by rw [h1, ho.2.2]; rfl, fun a ha => ?_⟩ (AcC_fr hC.2.2.2.2.1 (fs.2 93 (by decide)) (fs.2 94 (by decide)))
  intro i k q1 q2 q3
  rcases List.mem_cons.mp ha with h | h
  · rw [h, ho.2.2] at q1 q2
    by_cases c : i = dy (xw X)
    · rw [c, addL_s]; exact h2 k q3
    · rw [addL_n c, h3 _ (fun k' hk' => by omega)]
      exact hC.2.2.2.1.2 (xw X) (List.mem_cons_self ..) i k (by omega) (by omega) q3
  · have hg := Hd_get hK hd h
    rw [addL_n (by omega), h3 _ (fun k' hk' => by omega)]
    exact hC.2.2.2.1.2 a (List.mem_cons_of_mem _ h) i k q1 q2 q3
/-- the model -/
def DU (Ls : LwT) (σ τ : AS) : Prop := FD σ τ ∧ (∀ j, uF j → j ≠ 40 → τ.1 111 j = σ.1 111 j) ∧ (∀ k, uM k → k ≠ 124 → k ≠ 128 → τ.1 k = σ.1 k) ∧ τ.1 122 = σ.1 122 ∧ τ.1 123 = σ.1 123 ∧ (MeM σ Ls → MeM τ Ls) ∧ (LtM σ → LtM τ)
theorem MI.up {σ τ : AS} {X : XS} {w : WT} {lg : LG} {ac : List WT} (hC : MI σ X) (h : DU (xL X) σ τ) (hW : RwM (τ.1 124) w lg) (hA : AcM τ ac lg) : MI τ (upX X w lg ac) := by
  obtain ⟨c1, c2, c3, c4, c5, c6, c7, c8, c9, c10, c11, c12⟩ := hC
  have f := h.2.1
  have e := h.2.2.1
  refine ⟨?_, ?_, hW, hA, ?_, ?_, ?_, h.2.2.2.2.2.1 c8, h.2.2.2.2.2.2 c9, ?_, ?_, ?_⟩
  · unfold TM; rw [f 6 (by unfold uF; omega) (by decide), e 112 (by unfold uM; omega) (by decide) (by decide)]; exact c1
  · unfold TwM; rw [f 26 (by unfold uF; omega) (by decide), f 27 (by unfold uF; omega) (by decide), e 116 (by unfold uM; omega) (by decide) (by decide), e 118 (by unfold uM; omega) (by decide) (by decide), e 120 (by unfold uM; omega) (by decide) (by decide)]; exact c2
  · unfold ImM; rw [f 47 (by unfold uF; omega) (by decide), e 132 (by unfold uM; omega) (by decide) (by decide)]; exact c5
  · unfold MsM; rw [f 45 (by unfold uF; omega) (by decide), e 129 (by unfold uM; omega) (by decide) (by decide), e 130 (by unfold uM; omega) (by decide) (by decide)]; exact c6
  · unfold LsM; rw [f 7 (by unfold uF; omega) (by decide), f 34 (by unfold uF; omega) (by decide), e 114 (by unfold uM; omega) (by decide) (by decide), e 113 (by unfold uM; omega) (by decide) (by decide)]; exact c7
  · unfold PsM PLM; rw [f 30 (by unfold uF; omega) (by decide), h.2.2.2.1, h.2.2.2.2.1]; exact c10
  · rw [f 35 (by unfold uF; omega) (by decide)]; exact c11
  · rw [f 36 (by unfold uF; omega) (by decide)]; exact c12
theorem DU.rf {Ls : LwT} {σ : AS} : DU Ls σ σ := ⟨FD.rf, fun _ _ _ => rfl, fun _ _ _ _ => rfl, rfl, rfl, fun h => h, fun h => h⟩
theorem DU_s {Ls : LwT} {σ τ : AS} {k : Nat} {f : Nat → Int32} (h : DU Ls σ τ) (hk : k = 124 ∨ k = 128) : DU Ls σ (sI τ k f) := ⟨h.1.sI (by omega), fun j a b => by rw [sI_ne _ _ _ _ (by omega)]; exact h.2.1 j a b, fun j a b c => by rw [sI_ne _ _ _ _ (by omega)]; exact h.2.2.1 j a b c, by rw [sI_ne _ _ _ _ (by omega)]; exact h.2.2.2.1, by rw [sI_ne _ _ _ _ (by omega)]; exact h.2.2.2.2.1, fun q => MeM_sI (h.2.2.2.2.2.1 q) (by omega), fun q => LtM_sI (h.2.2.2.2.2.2 q) (by omega)⟩
theorem DU_40 {Ls : LwT} {σ τ : AS} {x : Int32} (h : DU Ls σ τ) : DU Ls σ (sI τ 111 (upd (τ.1 111) 40 x)) := ⟨h.1.sI (by omega), fun j a b => by rw [sI_same, upd_ne _ _ _ _ b]; exact h.2.1 j a b, fun j a b c => by rw [sI_ne _ _ _ _ (by unfold uM at a; omega)]; exact h.2.2.1 j a b c, by rw [sI_ne _ _ _ _ (by omega)]; exact h.2.2.2.1, by rw [sI_ne _ _ _ _ (by omega)]; exact h.2.2.2.2.1, fun q => MeM_sI (h.2.2.2.2.2.1 q) (by omega), fun q => LtM_sI (h.2.2.2.2.2.2 q) (by omega)⟩
theorem DU_n {Ls : LwT} {σ τ : AS} (h : FrN 124 σ τ) (h1 : MeM τ Ls) (h2 : LtM τ) : DU Ls σ τ := by
  refine ⟨⟨fun k hk => h.1 k (by omega) (by omega) (by omega) (by omega), fun k _ hk => h.2.2.1 k hk, h.2.2.2⟩, fun j hj _ => ?_, fun k hk a b => ?_, ?_, ?_, fun _ => h1, fun _ => h2⟩
  · unfold uF at hj; exact h.2.1 j (by omega) (by omega) (by omega) (by omega) (by omega) (by omega) (by omega) (by omega)
  · unfold uM at hk; exact h.1 k (by omega) (by omega) (by omega) (by omega)
  · exact h.1 122 (by decide) (by decide) (by decide) (by decide)
  · exact h.1 123 (by decide) (by decide) (by decide) (by decide)
theorem RwM_lg {r : Nat → Int32} {a : WT} {lg lg' : LG} (h : RwM r a lg) (e : ∀ i k, i < dy a → lg' i k = lg i k) : RwM r a lg' := ⟨h.1, h.2.1, fun i k h1 h2 h3 => by rw [e i k h1]; exact h.2.2 i k h1 h2 h3⟩
theorem RwM_day {r r2 : Nat → Int32} {s : PS} {w w' : WT} {lg : LG} {n' off : Nat} (h : RwM r w lg) (hd : dy w' = dy w + 1) (hW : WR r2 w') (h59 : n' ≤ 59) (hc : lgn (dy w) ≠ 60 ∧ n' = lgn (dy w) ∧ off = 0 ∨ lgn (dy w) = 60 ∧ n' = 59 ∧ off = 3) (hl : lgR r r2 s w' n' off) : RwM r2 w' (addL lg (dy w) (enF s w')) := by
  have hn := lgn_le (dy w)
  have hn2 := lgn_le (dy w')
  refine ⟨hW, by rw [hl.1]; congr 1; omega, fun i k h1 h2 h3 => ?_⟩
  rw [hd] at h1 h2 hn2
  by_cases c : i = dy w
  · rw [c, addL_s, ← hl.2.2 k h3, hd]
    congr 1
    omega
  · rw [addL_n c, ← h.2.2 i k (by omega) (by omega) h3, hd, show 25 + 3 * (i - (dy w + 1 - 60)) + k = 25 + (3 * (i - (dy w + 1 - 60)) + k) by omega, hl.2.1 _ (by omega)]
    congr 1
    omega
theorem MI_day {σ τ : AS} {X : XS} {rain : Int} {r2 : Nat → Int32} {n' off : Nat} (hC : MI σ X) (hK : XK X) (hr : 0 ≤ rain) (fr : FrN 124 σ τ) (hMe : MeM τ (xL X)) (hLt : LtM τ) (hW : WR r2 (dayF (xs X) (xv X) rain (xw X))) (h59 : n' ≤ 59) (hc : lgn (dy (xw X)) ≠ 60 ∧ n' = lgn (dy (xw X)) ∧ off = 0 ∨ lgn (dy (xw X)) = 60 ∧ n' = 59 ∧ off = 3) (hl : lgR (σ.1 124) r2 (xs X) (dayF (xs X) (xv X) rain (xw X)) n' off) : MI (sI τ 124 r2) (dayX X rain) ∧ FD σ (sI τ 124 r2) := by
  have ho := dayX_ok hK hr
  have hu : DU (xL X) σ (sI τ 124 r2) := DU_s (DU_n fr hMe hLt) (Or.inl rfl)
  refine ⟨hC.up hu (by rw [sI_same]; exact RwM_day hC.2.2.1 ho.2.2 hW h59 hc hl) ⟨?_, fun j a ha => ?_⟩, hu.1⟩
  · rw [sI_ne _ _ _ _ (by decide), fr.2.1 40 (by decide) (by decide) (by decide) (by decide) (by decide) (by decide) (by decide) (by decide)]; exact hC.2.2.2.1.1
  · rw [sI_ne _ _ _ _ (by decide), fr.1 128 (by decide) (by decide) (by decide) (by decide)]
    refine RwM_lg (hC.2.2.2.1.2 j a ha) (fun i k hi => addL_n ?_)
    have := Chn_get _ _ j a hK.a.2.1 ha
    omega
theorem AcM_rem {σ τ : AS} {w : WT} {ac : List WT} {lg : LG} (hA : AcM σ ac lg) (hl : ac.length ≤ 40) (h0 : τ.1 111 40 = iI (mn ((ac.length : Int) + 1) 40)) (hN : ∀ n, n = (if ac.length = 40 then 39 else ac.length) → RwM (fun i => τ.1 128 (205 * n + i)) w lg ∧ ∀ m i, m < n → i < 205 → τ.1 128 (205 * m + i) = σ.1 128 (205 * (m + (if ac.length = 40 then 1 else 0)) + i)) : AcM τ ((w :: ac).take 40) lg := by
  have hlen : ((w :: ac).take 40).length = (if ac.length = 40 then 39 else ac.length) + 1 := by
    rw [List.length_take, List.length_cons]
    split <;> omega
  obtain ⟨q1, q2⟩ := hN _ rfl
  refine ⟨?_, fun j a ha => ?_⟩
  · rw [h0, hlen]
    congr 1
    have := mn_or ((ac.length : Int) + 1) 40
    split <;> omega
  · rw [hlen]
    have hj : j < 40 := by
      have := (List.getElem?_eq_some_iff.mp ha).1
      rw [List.length_take] at this
      omega
    rw [List.getElem?_take, if_pos hj] at ha
    match j with
    | 0 =>
      have e : w = a := by simpa using ha
      subst e
      rw [show (if ac.length = 40 then 39 else ac.length) + 1 - 1 - 0 = (if ac.length = 40 then 39 else ac.length) by omega]
      exact q1
    | j + 1 =>
      have ha : ac[j]? = some a := by simpa using ha
      have hjl := (List.getElem?_eq_some_iff.mp ha).1
      have hr := hA.2 j a ha
      have hln := lgn_le (dy a)
      refine RwM_cg hr (fun i hi => ?_)
      show _ = _
      by_cases c : ac.length = 40
      · rw [if_pos c] at q2 ⊢
        rw [q2 _ i (by omega) (by omega), if_pos c, show 39 + 1 - 1 - (j + 1) + 1 = ac.length - 1 - j by omega]
      · rw [if_neg c] at q2 ⊢
        rw [q2 _ i (by omega) (by omega), if_neg c, show ac.length + 1 - 1 - (j + 1) + 0 = ac.length - 1 - j by omega]
def cpB (f g : Nat → Int32) (b k : Nat) : Nat → Int32 := fun j => if b ≤ j ∧ j < b + k then f (j - b) else g j
theorem cpB_s (f g : Nat → Int32) (b k : Nat) : upd (cpB f g b k) (b + k) (f k) = cpB f g b (k + 1) := by
  funext j
  by_cases hj : j = b + k
  · subst hj; rw [upd_same]; unfold cpB; rw [if_pos (by omega), show b + k - b = k by omega]
  · rw [upd_ne _ _ _ _ hj]; unfold cpB
    by_cases c : b ≤ j ∧ j < b + k
    · rw [if_pos c, if_pos (by omega)]
    · rw [if_neg c, if_neg (by omega)]
theorem cpB_0 (f g : Nat → Int32) (b : Nat) : cpB f g b 0 = g := by funext j; unfold cpB; rw [if_neg (by omega)]
def dnS (f : Nat → Int32) (k : Nat) : Nat → Int32 := fun j => if j < k then f (j + 205) else f j
theorem dnS_s (f : Nat → Int32) (k : Nat) : upd (dnS f k) k (dnS f k (k + 205)) = dnS f (k + 1) := by
  funext j
  by_cases hj : j = k
  · subst hj; rw [upd_same]; unfold dnS; rw [if_neg (by omega), if_pos (by omega)]
  · rw [upd_ne _ _ _ _ hj]; unfold dnS
    by_cases c : j < k
    · rw [if_pos c, if_pos (by omega)]
    · rw [if_neg c, if_neg (by omega)]
theorem dnS_0 (f : Nat → Int32) : dnS f 0 = f := by funext j; unfold dnS; rw [if_neg (by omega)]
theorem re11 {l : Launch} {D : va_G} {cA ad : Nat → Nat} {d : Nat} {σ : AS} {K : Option Value → AS → Prop} {f : Nat → Int32} (hR : RO σ) (hK : Go l D cA ad d mX12_remember 40 [.ref 111, .int (iI 7995)] [] (sI σ 128 (dnS f 7995)) K) : ∀ i : Nat, i ≤ 7995 → Go l D cA ad d mX12_remember 11 [.ref 111, .int (iI i)] [] (sI σ 128 (dnS f i)) K := by
  refine up_loop ?_ (fun i hi ih => ?_)
  · refine go_iload_n dX12_remember_11 rfl ?_
    refine go_sipush (v := iI 7995) dX12_remember_12 (by decide) ?_
    refine go_icmp_ge (tgt := 40) dX12_remember_15 (by decide) (fun h15 => ?_) (fun h15 => ?_)
    · exact hK
    · exact absurd (by decide) h15
  · refine go_iload_n dX12_remember_11 rfl ?_
    refine go_sipush (v := iI 7995) dX12_remember_12 (by decide) ?_
    refine go_icmp_ge (tgt := 40) dX12_remember_15 (by decide) (fun h15 => ?_) (fun h15 => ?_)
    · exfalso
      rw [iI_le (by omega)] at h15
      omega
    · refine go_aload_n dX12_remember_18 rfl ?_
      refine go_getR fX12_81 dX12_remember_19 rfl (hR _ _ _ rfl) ?_
      refine go_iload_n dX12_remember_22 rfl ?_
      refine go_aload_n dX12_remember_23 rfl ?_
      refine go_getR fX12_81 dX12_remember_24 rfl (hR _ _ _ rfl) ?_
      refine go_iload_n dX12_remember_27 rfl ?_
      refine go_sipush (v := iI 205) dX12_remember_28 (by decide) ?_
      refine go_iadd dX12_remember_31 ?_
      rw [iI_add, show (i : Int) + 205 = ((i + 205 : Nat) : Int) by omega]
      refine go_iald dX12_remember_32 rfl (vp_iI (by omega)) ?_
      rw [cl_n _ (by omega), sI_same]
      refine go_iast dX12_remember_33 rfl (vp_iI (by omega)) ?_
      rw [cl_n _ (by omega), sI_same, sI_sI, dnS_s]
      refine go_iincI dX12_remember_34 rfl (Nat.le_of_ble_eq_true rfl) rfl ?_
      refine go_goto (tgt := 11) dX12_remember_37 (by decide) ?_
      simp only [List.set, iI_add]
      exact ih

theorem re52 {l : Launch} {D : va_G} {cA ad : Nat → Nat} {d : Nat} {σ : AS} {K : Option Value → AS → Prop} {g : Nat → Int32} {n : Nat} (hR : RO σ) (hn : σ.1 111 40 = iI n) (hn9 : n ≤ 39) (hK : K none (sI (sI σ 128 (cpB (σ.1 124) g (205 * n) 205)) 111 (upd (σ.1 111) 40 (iI ((n : Int) + 1))))) : ∀ i : Nat, i ≤ 205 → Go l D cA ad d mX12_remember 52 [.ref 111, .int (iI i)] [] (sI σ 128 (cpB (σ.1 124) g (205 * n) i)) K := by
  refine up_loop ?_ (fun i hi ih => ?_)
  · refine go_iload_n dX12_remember_52 rfl ?_
    refine go_sipush (v := iI 205) dX12_remember_53 (by decide) ?_
    refine go_icmp_ge (tgt := 86) dX12_remember_56 (by decide) (fun h56 => ?_) (fun h56 => ?_)
    · refine go_aload_n dX12_remember_86 rfl ?_
      refine go_dup dX12_remember_87 rfl ?_
      refine go_getI fX12_306 dX12_remember_88 rfl ?_
      rw [sI_ne _ _ _ _ (by decide), hn]
      refine go_iconst (v := iI 1) dX12_remember_91 (by decide) ?_
      refine go_iadd dX12_remember_92 ?_
      rw [iI_add]
      refine go_putI fX12_306 rfl dX12_remember_93 rfl rfl rfl ?_
      rw [sI_ne _ _ _ _ (by decide)]
      refine go_vret rfl dX12_remember_96 ?_
      exact hK
    · exact absurd (by decide) h56
  · refine go_iload_n dX12_remember_52 rfl ?_
    refine go_sipush (v := iI 205) dX12_remember_53 (by decide) ?_
    refine go_icmp_ge (tgt := 86) dX12_remember_56 (by decide) (fun h56 => ?_) (fun h56 => ?_)
    · exfalso
      rw [iI_le (by omega)] at h56
      omega
    · refine go_aload_n dX12_remember_59 rfl ?_
      refine go_getR fX12_81 dX12_remember_60 rfl (hR _ _ _ rfl) ?_
      refine go_sipush (v := iI 205) dX12_remember_63 (by decide) ?_
      refine go_aload_n dX12_remember_66 rfl ?_
      refine go_getI fX12_306 dX12_remember_67 rfl ?_
      rw [sI_ne _ _ _ _ (by decide), hn]
      refine go_imul dX12_remember_70 ?_
      refine go_iload_n dX12_remember_71 rfl ?_
      refine go_iadd dX12_remember_72 ?_
      rw [iI_mul, iI_add, show 205 * (n : Int) + (i : Int) = ((205 * n + i : Nat) : Int) by omega]
      refine go_aload_n dX12_remember_73 rfl ?_
      refine go_getR fX12_61 dX12_remember_74 rfl (hR _ _ _ rfl) ?_
      refine go_iload_n dX12_remember_77 rfl ?_
      refine go_iald dX12_remember_78 rfl (vp_iI (by omega)) ?_
      rw [cl_n _ (by omega), sI_ne _ _ _ _ (by decide)]
      refine go_iast dX12_remember_79 rfl (vp_iI (by omega)) ?_
      rw [cl_n _ (by omega), sI_same, sI_sI, cpB_s]
      refine go_iincI dX12_remember_80 rfl (Nat.le_of_ble_eq_true rfl) rfl ?_
      refine go_goto (tgt := 52) dX12_remember_83 (by decide) ?_
      simp only [List.set, iI_add]
      exact ih

theorem ct_X12_remember {l : Launch} {D : va_G} {cA ad : Nat → Nat} {d : Nat} {σ : AS} {K : Option Value → AS → Prop} {X : XS} (hR : RO σ) (hK0 : XK X) (hC : MI σ X) (hK : ∀ τ, FD σ τ → τ.2 = σ.2 → MI τ (remX X) → K none τ) : Call l D cA ad d mX12_remember [.ref 111] σ K := by
  have hl40 := hK0.a.1
  refine call_go (by decide) (Nat.le_of_ble_eq_true rfl) (show Go l D cA ad d mX12_remember 0 [.ref 111, .null] [] σ K from ?_)
  refine go_aload_n dX12_remember_0 rfl ?_
  refine go_getI fX12_306 dX12_remember_1 rfl ?_
  refine go_bipush (v := iI 40) dX12_remember_4 (by decide) ?_
  refine go_icmp_ne (tgt := 50) dX12_remember_6 (by decide) (fun h6 => ?_) (fun h6 => ?_)
  · rw [hC.2.2.2.1.1, iI_eq (by omega)] at h6
    refine go_iconst (v := iI 0) dX12_remember_50 (by decide) ?_
    refine go_istore_n dX12_remember_51 (Nat.le_of_ble_eq_true rfl) rfl ?_
    simp only [List.set]
    have hcp := cpB_0 (σ.1 124) (σ.1 128) (205 * (xa X).length)
    have h9 := re52 (l := l) (D := D) (cA := cA) (ad := ad) (d := d) (σ := σ) (K := K) (g := σ.1 128) (n := (xa X).length) hR hC.2.2.2.1.1 (by omega) ?_ 0 (by omega)
    · rw [hcp, sI_self] at h9
      exact h9
    have hu : DU (xL X) σ (sI (sI σ 128 (cpB (σ.1 124) (σ.1 128) (205 * (xa X).length) 205)) 111 (upd ((sI σ 128 (cpB (σ.1 124) (σ.1 128) (205 * (xa X).length) 205)).1 111) 40 (iI (((xa X).length : Int) + 1)))) := DU_40 (DU_s DU.rf (Or.inr rfl))
    rw [sI_ne _ _ _ _ (by decide)] at hu
    refine hK _ hu.1 rfl (hC.up hu (by rw [sI_ne _ _ _ _ (by decide), sI_ne _ _ _ _ (by decide)]; exact hC.2.2.1) (AcM_rem hC.2.2.2.1 hK0.a.1 ?_ (fun n hn => ?_)))
    · rw [sI_same, upd_same]
      congr 1
      have := mn_or (((xa X).length : Int) + 1) 40
      omega
    · rw [if_neg (by omega)] at hn ⊢
      subst hn
      rw [sI_ne _ _ _ _ (by decide), sI_same]
      refine ⟨RwM_cg hC.2.2.1 (fun i hi => ?_), fun m i hm hi => ?_⟩
      · have hl := lgn_le (dy (xw X))
        show cpB (σ.1 124) (σ.1 128) (205 * (xa X).length) 205 (205 * (xa X).length + i) = _
        unfold cpB
        rw [if_pos (by omega), show 205 * (xa X).length + i - 205 * (xa X).length = i by omega]
      · show cpB (σ.1 124) (σ.1 128) (205 * (xa X).length) 205 (205 * m + i) = _
        unfold cpB
        rw [if_neg (by omega)]
        rfl
  · rw [hC.2.2.2.1.1, iI_eq (by omega)] at h6
    refine go_iconst (v := iI 0) dX12_remember_9 (by decide) ?_
    refine go_istore_n dX12_remember_10 (Nat.le_of_ble_eq_true rfl) rfl ?_
    simp only [List.set]
    have h9 := re11 (l := l) (D := D) (cA := cA) (ad := ad) (d := d) (σ := σ) (K := K) (f := σ.1 128) hR ?_ 0 (by omega)
    · rw [dnS_0, sI_self] at h9
      exact h9
    refine go_aload_n dX12_remember_40 rfl ?_
    refine go_dup dX12_remember_41 rfl ?_
    refine go_getI fX12_306 dX12_remember_42 rfl ?_
    rw [sI_ne _ _ _ _ (by decide), hC.2.2.2.1.1]
    refine go_iconst (v := iI 1) dX12_remember_45 (by decide) ?_
    refine go_isub dX12_remember_46 ?_
    rw [iI_sub, h6]
    refine go_putI fX12_306 rfl dX12_remember_47 rfl rfl rfl ?_
    rw [sI_ne _ _ _ _ (by decide)]
    refine go_iconst (v := iI 0) dX12_remember_50 (by decide) ?_
    refine go_istore_n dX12_remember_51 (Nat.le_of_ble_eq_true rfl) rfl ?_
    simp only [List.set]
    have hR2 : RO (sI (sI σ 128 (dnS (σ.1 128) 7995)) 111 (upd (σ.1 111) 40 (iI (40 - 1)))) := hR
    have ett : (sI (sI σ 128 (dnS (σ.1 128) 7995)) 111 (upd (σ.1 111) 40 (iI (40 - 1)))).2 = σ.2 := rfl
    have h39 : (sI (sI σ 128 (dnS (σ.1 128) 7995)) 111 (upd (σ.1 111) 40 (iI (40 - 1)))).1 111 40 = iI ((39 : Nat) : Int) := by rw [sI_same, upd_same]; rfl
    have e124 : (sI (sI σ 128 (dnS (σ.1 128) 7995)) 111 (upd (σ.1 111) 40 (iI (40 - 1)))).1 124 = σ.1 124 := by rw [sI_ne _ _ _ _ (by decide), sI_ne _ _ _ _ (by decide)]
    have e128 : (sI (sI σ 128 (dnS (σ.1 128) 7995)) 111 (upd (σ.1 111) 40 (iI (40 - 1)))).1 128 = dnS (σ.1 128) 7995 := by rw [sI_ne _ _ _ _ (by decide), sI_same]
    have e111 : (sI (sI σ 128 (dnS (σ.1 128) 7995)) 111 (upd (σ.1 111) 40 (iI (40 - 1)))).1 111 = upd (σ.1 111) 40 (iI (40 - 1)) := sI_same _ _ _
    have hu0 : DU (xL X) σ (sI (sI σ 128 (dnS (σ.1 128) 7995)) 111 (upd ((sI σ 128 (dnS (σ.1 128) 7995)).1 111) 40 (iI (40 - 1)))) := DU_40 (DU_s DU.rf (Or.inr rfl))
    rw [sI_ne _ _ _ _ (by decide)] at hu0
    generalize sI (sI σ 128 (dnS (σ.1 128) 7995)) 111 (upd (σ.1 111) 40 (iI (40 - 1))) = τ at hR2 ett h39 e124 e128 e111 hu0 ⊢
    have h9 := re52 (l := l) (D := D) (cA := cA) (ad := ad) (d := d) (σ := τ) (K := K) (g := τ.1 128) (n := 39) hR2 h39 (by decide) ?_ 0 (by omega)
    · rw [cpB_0, sI_self] at h9
      exact h9
    have hu : DU (xL X) σ (sI (sI τ 128 (cpB (τ.1 124) (τ.1 128) (205 * 39) 205)) 111 (upd ((sI τ 128 (cpB (τ.1 124) (τ.1 128) (205 * 39) 205)).1 111) 40 (iI (((39 : Nat) : Int) + 1)))) := DU_40 (DU_s hu0 (Or.inr rfl))
    rw [sI_ne _ _ _ _ (by decide)] at hu
    refine hK _ hu.1 ett (hC.up hu (by rw [sI_ne _ _ _ _ (by decide), sI_ne _ _ _ _ (by decide), e124]; exact hC.2.2.1) (AcM_rem hC.2.2.2.1 hK0.a.1 ?_ (fun n hn => ?_)))
    · rw [sI_same, upd_same]
      congr 1
      have := mn_or (((xa X).length : Int) + 1) 40
      omega
    · rw [if_pos (by omega)] at hn ⊢
      subst hn
      rw [sI_ne _ _ _ _ (by decide), sI_same, e124, e128]
      refine ⟨RwM_cg hC.2.2.1 (fun i hi => ?_), fun m i hm hi => ?_⟩
      · have hl := lgn_le (dy (xw X))
        show cpB (σ.1 124) (dnS (σ.1 128) 7995) (205 * 39) 205 (205 * 39 + i) = _
        unfold cpB
        rw [if_pos (by omega), show 205 * 39 + i - 205 * 39 = i by omega]
      · show cpB (σ.1 124) (dnS (σ.1 128) 7995) (205 * 39) 205 (205 * m + i) = _
        unfold cpB dnS
        rw [if_neg (by omega), if_pos (by omega), show 205 * m + i + 205 = 205 * (m + 1) + i by omega]

