/-! the state of both sides -/
abbrev XS : Type := List Nat × PS × WT × LG × List WT × Option (WT × LG) × List (Nat × Int) × LwT × Int × List (List ST) × Int × Int
def xt (X : XS) : List Nat := X.1
def xs (X : XS) : PS := X.2.1
def xw (X : XS) : WT := X.2.2.1
def xl (X : XS) : LG := X.2.2.2.1
def xa (X : XS) : List WT := X.2.2.2.2.1
def xi (X : XS) : Option (WT × LG) := X.2.2.2.2.2.1
def xm (X : XS) : List (Nat × Int) := X.2.2.2.2.2.2.1
def xL (X : XS) : LwT := X.2.2.2.2.2.2.2.1
def xh (X : XS) : Int := X.2.2.2.2.2.2.2.2.1
def xp (X : XS) : List (List ST) := X.2.2.2.2.2.2.2.2.2.1
def xo (X : XS) : Int := X.2.2.2.2.2.2.2.2.2.2.1
def xk (X : XS) : Int := X.2.2.2.2.2.2.2.2.2.2.2
def mkX (t : List Nat) (s : PS) (w : WT) (l : LG) (a : List WT) (i : Option (WT × LG)) (m : List (Nat × Int)) (L : LwT) (h : Int) (p : List (List ST)) (o k : Int) : XS := (t, s, w, l, a, i, m, L, h, p, o, k)
def AcK (s : PS) (w : WT) (ac : List WT) : Prop := ac.length ≤ 40 ∧ Chn w ac ∧ ∀ a, a ∈ ac → WK s a
def ImK (s : PS) (im : Option (WT × LG)) : Prop := ∀ a l, im = some (a, l) → WK s a ∧ dy a ≤ 9999
def MsK (s : PS) (ms : List (Nat × Int)) : Prop := ms.length ≤ 10 ∧ ∀ m, m ∈ ms → m.1 < nP s ∧ -9 ≤ m.2 ∧ m.2 ≤ 9
def PsK (pl : List (List ST)) : Prop := pl.length ≤ 4 ∧ ∀ L, L ∈ pl → LOK L
def XK (X : XS) : Prop := TOK (xt X) ∧ TwK (xs X) ∧ WK (xs X) (xw X) ∧ dy (xw X) ≤ 9999 ∧ AcK (xs X) (xw X) (xa X) ∧ ImK (xs X) (xi X) ∧ MsK (xs X) (xm X) ∧ LsK (xL X) (xh X) ∧ PsK (xp X) ∧ (0 ≤ xo X ∧ xo X ≤ 99) ∧ 0 ≤ xk X ∧ xk X ≤ 99
theorem XK.t {X : XS} (h : XK X) : TOK (xt X) := h.1
theorem XK.s {X : XS} (h : XK X) : TwK (xs X) := h.2.1
theorem XK.w {X : XS} (h : XK X) : WK (xs X) (xw X) := h.2.2.1
theorem XK.d {X : XS} (h : XK X) : dy (xw X) ≤ 9999 := h.2.2.2.1
theorem XK.a {X : XS} (h : XK X) : AcK (xs X) (xw X) (xa X) := h.2.2.2.2.1
theorem XK.i {X : XS} (h : XK X) : ImK (xs X) (xi X) := h.2.2.2.2.2.1
theorem XK.m {X : XS} (h : XK X) : MsK (xs X) (xm X) := h.2.2.2.2.2.2.1
theorem XK.L {X : XS} (h : XK X) : LsK (xL X) (xh X) := h.2.2.2.2.2.2.2.1
theorem XK.p {X : XS} (h : XK X) : PsK (xp X) := h.2.2.2.2.2.2.2.2.1
theorem XK.o {X : XS} (h : XK X) : 0 ≤ xo X ∧ xo X ≤ 99 := h.2.2.2.2.2.2.2.2.2.1
theorem XK.k {X : XS} (h : XK X) : 0 ≤ xk X ∧ xk X ≤ 99 := h.2.2.2.2.2.2.2.2.2.2
/-- the class -/
def ChC (σ : AS) (w : WT) (ac : List WT) (lg : LG) : Prop := σ.1 91 0 = iI (dy w) ∧ ∀ a, a ∈ w :: ac → ChW (σ.1 92) a lg
def flg (b : Bool) : Int := if b = true then 1 else 0
def ImC (σ : AS) (im : Option (WT × LG)) : Prop := σ.1 0 13 = iI (flg im.isSome) ∧ ∀ a l, im = some (a, l) → WC σ 95 a ∧ σ.1 99 0 = iI (dy a) ∧ ChW (σ.1 100) a l
def MsC (σ : AS) (ms : List (Nat × Int)) : Prop := σ.1 101 0 = iI ms.length ∧ ∀ (j : Nat) m, ms[j]? = some m → σ.1 102 j = iI m.1 ∧ σ.1 103 j = iI m.2
def PsC (σ : AS) (pl : List (List ST)) : Prop := σ.1 0 7 = iI pl.length ∧ ∀ (k : Nat) L, pl[k]? = some L → PLC σ (67 + 4 * k) L
def CI (σ : AS) (X : XS) : Prop := TC σ (xt X) ∧ TwC σ (xs X) ∧ WC σ 87 (xw X) ∧ ChC σ (xw X) (xa X) (xl X) ∧ AcC σ (xa X) ∧ ImC σ (xi X) ∧ MsC σ (xm X) ∧ LsC σ (xL X) (xh X) ∧ PsC σ (xp X) ∧ σ.1 0 16 = iI (xo X) ∧ σ.1 0 17 = iI (xk X)
def uC (k : Nat) : Prop := k = 0 ∨ k = 2 ∨ (3 ≤ k ∧ k ≤ 22) ∨ k = 48 ∨ (50 ≤ k ∧ k ≤ 63 ∧ 2 ≤ k % 4) ∨ (67 ≤ k ∧ k ≤ 82) ∨ (87 ≤ k ∧ k ≤ 103)
/-- what every call of the class leaves -/
def FC (σ τ : AS) : Prop := τ.2.2 = σ.2.2 ∧ (∀ k, k ≠ 0 → τ.2.1 k = σ.2.1 k) ∧ ∀ k, 111 ≤ k → τ.1 k = σ.1 k
theorem FC.rf {σ : AS} : FC σ σ := ⟨rfl, fun _ _ => rfl, fun _ _ => rfl⟩
theorem FC.tr {σ τ ρ : AS} (h : FC σ τ) (g : FC τ ρ) : FC σ ρ := ⟨g.1.trans h.1, fun k hk => (g.2.1 k hk).trans (h.2.1 k hk), fun k hk => (g.2.2 k hk).trans (h.2.2 k hk)⟩
theorem FC.sI {σ τ : AS} {k : Nat} {f : Nat → Int32} (h : FC σ τ) (hk : k < 111) : FC σ (sI τ k f) := ⟨h.1, h.2.1, fun j hj => by rw [sI_ne _ _ _ _ (by omega)]; exact h.2.2 j hj⟩
theorem FC.RO {σ τ : AS} (h : FC σ τ) (hR : RO σ) : RO τ := by
  intro k j a e
  rw [h.1]
  exact hR k j a e
theorem FC.ofS {S : List Nat} {σ τ : AS} (h : FrS S σ τ) (hs : ∀ k, k ∈ S → k < 111) : FC σ τ := ⟨by rw [h.1], fun k _ => by rw [h.1], fun k hk => h.2 k (fun q => by have := hs k q; omega)⟩
/-- what a question to the class leaves -/
def QF (σ τ : AS) : Prop := τ.2 = σ.2 ∧ (∀ k, 111 ≤ k → τ.1 k = σ.1 k) ∧ (∀ k, uC k → τ.1 k = σ.1 k) ∧ ∀ j, j ≠ 2 → τ.1 1 j = σ.1 1 j
theorem QF.rf {σ : AS} : QF σ σ := ⟨rfl, fun _ _ => rfl, fun _ _ => rfl, fun _ _ => rfl⟩
theorem QF.tr {σ τ ρ : AS} (h : QF σ τ) (g : QF τ ρ) : QF σ ρ := ⟨g.1.trans h.1, fun k hk => (g.2.1 k hk).trans (h.2.1 k hk), fun k hk => (g.2.2.1 k hk).trans (h.2.2.1 k hk), fun k hk => (g.2.2.2 k hk).trans (h.2.2.2 k hk)⟩
theorem QF.fc {σ τ : AS} (h : QF σ τ) : FC σ τ := ⟨by rw [h.1], fun k _ => by rw [h.1], h.2.1⟩
theorem QF.RO {σ τ : AS} (h : QF σ τ) (hR : RO σ) : RO τ := h.fc.RO hR
theorem QF.ofS {S : List Nat} {σ τ : AS} (h : FrS S σ τ) (hs : ∀ k, k ∈ S → k < 111 ∧ ¬ uC k ∧ k ≠ 1) : QF σ τ := ⟨h.1, fun k hk => h.2 k (fun q => by have := hs k q; omega), fun k hk => h.2 k (fun q => (hs k q).2.1 hk), fun j _ => by rw [h.2 1 (fun q => (hs 1 q).2.2 rfl)]⟩
theorem QF.sI {σ τ : AS} {k : Nat} {f : Nat → Int32} (h : QF σ τ) (h1 : k < 111) (h2 : ¬ uC k) (h3 : k ≠ 1) : QF σ (sI τ k f) := ⟨h.1, fun j hj => by rw [sI_ne _ _ _ _ (by omega)]; exact h.2.1 j hj, fun j hj => by rw [sI_ne _ _ _ _ (show j ≠ k from fun q => h2 (q ▸ hj))]; exact h.2.2.1 j hj, fun j hj => by rw [sI_ne _ _ _ _ (fun q => h3 q.symm)]; exact h.2.2.2 j hj⟩
theorem QF.at {σ τ : AS} {a : Nat} (h : QF σ τ) : QF σ (atc τ a) := ⟨h.1, fun j hj => by unfold atc; rw [sI_ne _ _ _ _ (by omega)]; exact h.2.1 j hj, fun j hj => by unfold atc; rw [sI_ne _ _ _ _ (by unfold uC at hj; omega)]; exact h.2.2.1 j hj, fun j hj => by unfold atc; rw [sI_same, upd_ne _ _ _ _ hj]; exact h.2.2.2 j hj⟩
theorem PLC_fr {σ τ : AS} {b : Nat} {L : List ST} (h : PLC σ b L) (e : ∀ k, b ≤ k → k ≤ b + 3 → τ.1 k = σ.1 k) : PLC τ b L := by
  refine ⟨by rw [e _ (by omega) (by omega)]; exact h.1, fun i x hx => ?_⟩
  rw [e _ (by omega) (by omega), e (b + 2) (by omega) (by omega), e (b + 3) (by omega) (by omega)]
  exact h.2 i x hx
theorem WC_fr {σ τ : AS} {b : Nat} {w : WT} (h : WC σ b w) (e : ∀ k, b ≤ k → k ≤ b + 3 → τ.1 k = σ.1 k) : WC τ b w := by
  unfold WC
  rw [e b (by omega) (by omega), e (b + 1) (by omega) (by omega), e (b + 2) (by omega) (by omega), e (b + 3) (by omega) (by omega)]
  exact h
theorem TwC_fr {σ τ : AS} {s : PS} (hT : TwC σ s) (h1 : nP s ≤ 7) (h2 : nQ s ≤ 9) (e : ∀ k, 3 ≤ k → k ≤ 22 → τ.1 k = σ.1 k) : TwC τ s := by
  refine ⟨?_, ?_, fun j hj => ?_, fun i j hi hj => ?_, fun k j hk hj => ?_⟩
  · rw [e _ (by omega) (by omega)]; exact hT.1
  · rw [e _ (by omega) (by omega)]; exact hT.2.1
  · rw [e _ (by omega) (by omega)]; exact hT.2.2.1 j hj
  · rw [e _ (by omega) (by omega)]; exact hT.2.2.2.1 i j hi hj
  · rw [e _ (by omega) (by omega)]; exact hT.2.2.2.2 k j hk hj
theorem LsC_fr {σ τ : AS} {Ls : LwT} {h0 : Int} (hT : LsC σ Ls h0) (h1 : Ls.length ≤ 4) (e : ∀ k, k = 48 ∨ (50 ≤ k ∧ k ≤ 63 ∧ 2 ≤ k % 4) → τ.1 k = σ.1 k) : LsC τ Ls h0 := by
  refine ⟨?_, ?_, fun k x hx => ?_⟩
  · rw [e _ (by omega)]; exact hT.1
  · rw [e _ (by omega)]; exact hT.2.1
  · have hk := (List.getElem?_eq_some_iff.mp hx).1
    have h3 := hT.2.2 k x hx
    refine ⟨?_, fun i y hy => ?_⟩
    · rw [e _ (by omega)]; exact h3.1
    · rw [e _ (by omega)]; exact h3.2 i y hy
theorem AcC_fr {σ τ : AS} {ac : List WT} (h : AcC σ ac) (e1 : τ.1 93 = σ.1 93) (e2 : τ.1 94 = σ.1 94) : AcC τ ac := by
  unfold AcC
  rw [e1, e2]
  exact h
theorem ImC_fr {σ τ : AS} {im : Option (WT × LG)} (h : ImC σ im) (e1 : τ.1 0 13 = σ.1 0 13) (e : ∀ k, 95 ≤ k → k ≤ 100 → τ.1 k = σ.1 k) : ImC τ im := by
  refine ⟨by rw [e1]; exact h.1, fun a l hi => ?_⟩
  obtain ⟨q1, q2, q3⟩ := h.2 a l hi
  exact ⟨WC_fr q1 (fun k h1 h2 => e k (by omega) (by omega)), by rw [e 99 (by omega) (by omega)]; exact q2, by rw [e 100 (by omega) (by omega)]; exact q3⟩
theorem MsC_fr {σ τ : AS} {ms : List (Nat × Int)} (h : MsC σ ms) (e : ∀ k, 101 ≤ k → k ≤ 103 → τ.1 k = σ.1 k) : MsC τ ms := by
  unfold MsC
  rw [e 101 (by omega) (by omega), e 102 (by omega) (by omega), e 103 (by omega) (by omega)]
  exact h
theorem PsC_fr {σ τ : AS} {pl : List (List ST)} (h : PsC σ pl) (hl : pl.length ≤ 4) (e1 : τ.1 0 7 = σ.1 0 7) (e : ∀ k, 67 ≤ k → k ≤ 82 → τ.1 k = σ.1 k) : PsC τ pl := by
  refine ⟨by rw [e1]; exact h.1, fun k L hk => ?_⟩
  have := (List.getElem?_eq_some_iff.mp hk).1
  exact PLC_fr (h.2 k L hk) (fun j h1 h2 => e j (by omega) (by omega))
theorem CI.q {σ τ : AS} {X : XS} (hC : CI σ X) (hK : XK X) (h : QF σ τ) : CI τ X := by
  obtain ⟨c1, c2, c3, c4, c5, c6, c7, c8, c9, c10, c11⟩ := hC
  have e := h.2.2.1
  refine ⟨⟨by rw [h.2.2.2 1 (by decide)]; exact c1.1, fun i b hb => by rw [e 2 (by unfold uC; omega)]; exact c1.2 i b hb⟩, TwC_fr c2 hK.s.1 hK.s.2.1 (fun k a b => e k (by unfold uC; omega)), WC_fr c3 (fun k a b => e k (by unfold uC; omega)), ?_, AcC_fr c5 (e _ (by unfold uC; omega)) (e _ (by unfold uC; omega)), ImC_fr c6 (by rw [e 0 (by unfold uC; omega)]) (fun k a b => e k (by unfold uC; omega)), MsC_fr c7 (fun k a b => e k (by unfold uC; omega)), LsC_fr c8 hK.L.1 (fun k a => e k (by unfold uC; omega)), PsC_fr c9 hK.p.1 (by rw [e 0 (by unfold uC; omega)]) (fun k a b => e k (by unfold uC; omega)), by rw [e 0 (by unfold uC; omega)]; exact c10, by rw [e 0 (by unfold uC; omega)]; exact c11⟩
  unfold ChC
  rw [e 91 (by unfold uC; omega), e 92 (by unfold uC; omega)]
  exact c4
/-- the model -/
def RwM (r : Nat → Int32) (w : WT) (lg : LG) : Prop := WR r w ∧ r 24 = iI (lgn (dy w)) ∧ ∀ i k, i < dy w → dy w ≤ i + 60 → k < 3 → r (25 + 3 * (i - (dy w - 60)) + k) = iI (lg i k)
def AcM (σ : AS) (ac : List WT) (lg : LG) : Prop := σ.1 111 40 = iI ac.length ∧ ∀ (j : Nat) a, ac[j]? = some a → RwM (fun i => σ.1 128 (205 * (ac.length - 1 - j) + i)) a lg
def ImM (σ : AS) (im : Option (WT × LG)) : Prop := σ.1 111 47 = iI (flg im.isSome) ∧ ∀ a l, im = some (a, l) → RwM (σ.1 132) a l
def MsM (σ : AS) (ms : List (Nat × Int)) : Prop := σ.1 111 45 = iI ms.length ∧ ∀ (j : Nat) m, ms[j]? = some m → σ.1 129 j = iI m.1 ∧ σ.1 130 j = iI m.2
def PsM (σ : AS) (pl : List (List ST)) : Prop := σ.1 111 30 = iI pl.length ∧ ∀ (k : Nat) L, pl[k]? = some L → PLM σ k L ∧ σ.1 123 k = iI L.length
def MI (σ : AS) (X : XS) : Prop := TM σ (xt X) ∧ TwM σ (xs X) ∧ RwM (σ.1 124) (xw X) (xl X) ∧ AcM σ (xa X) (xl X) ∧ ImM σ (xi X) ∧ MsM σ (xm X) ∧ LsM σ (xL X) (xh X) ∧ MeM σ (xL X) ∧ LtM σ ∧ PsM σ (xp X) ∧ σ.1 111 35 = iI (xo X) ∧ σ.1 111 36 = iI (xk X)
/-- what every call of the model leaves -/
def FD (σ τ : AS) : Prop := (∀ k, k < 111 → τ.1 k = σ.1 k) ∧ (∀ k, k ≠ 111 → k ≠ 126 → τ.2.1 k = σ.2.1 k) ∧ ∀ k j, k ≠ 111 ∨ j ≠ 5 → τ.2.2 k j = σ.2.2 k j
theorem FD.rf {σ : AS} : FD σ σ := ⟨fun _ _ => rfl, fun _ _ _ => rfl, fun _ _ _ => rfl⟩
theorem FD.tr {σ τ ρ : AS} (h : FD σ τ) (g : FD τ ρ) : FD σ ρ := ⟨fun k hk => (g.1 k hk).trans (h.1 k hk), fun k a b => (g.2.1 k a b).trans (h.2.1 k a b), fun k j a => (g.2.2 k j a).trans (h.2.2 k j a)⟩
theorem FD.sI {σ τ : AS} {k : Nat} {f : Nat → Int32} (h : FD σ τ) (hk : 111 ≤ k) : FD σ (sI τ k f) := ⟨fun j hj => by rw [sI_ne _ _ _ _ (by omega)]; exact h.1 j hj, h.2⟩
theorem R0_5 : R0 111 5 = none := by decide
theorem FD.RO {σ τ : AS} (h : FD σ τ) (hR : RO σ) : RO τ := by
  intro k j a e
  rw [h.2.2 k j]
  · exact hR k j a e
  · by_cases hk : k = 111
    · right; intro hj; subst hk; subst hj; rw [R0_5] at e; cases e
    · exact Or.inl hk
theorem CI.m {σ τ : AS} {X : XS} (hC : CI σ X) (hK : XK X) (h : FD σ τ) : CI τ X := by
  obtain ⟨c1, c2, c3, c4, c5, c6, c7, c8, c9, c10, c11⟩ := hC
  have e := h.1
  refine ⟨⟨by rw [e 1 (by decide)]; exact c1.1, fun i b hb => by rw [e 2 (by decide)]; exact c1.2 i b hb⟩, TwC_fr c2 hK.s.1 hK.s.2.1 (fun k a b => e k (by omega)), WC_fr c3 (fun k a b => e k (by omega)), ?_, AcC_fr c5 (e _ (by omega)) (e _ (by omega)), ImC_fr c6 (by rw [e 0 (by omega)]) (fun k a b => e k (by omega)), MsC_fr c7 (fun k a b => e k (by omega)), LsC_fr c8 hK.L.1 (fun k a => e k (by omega)), PsC_fr c9 hK.p.1 (by rw [e 0 (by omega)]) (fun k a b => e k (by omega)), by rw [e 0 (by omega)]; exact c10, by rw [e 0 (by omega)]; exact c11⟩
  unfold ChC
  rw [e 91 (by omega), e 92 (by omega)]
  exact c4
theorem MI.c {σ τ : AS} {X : XS} (hC : MI σ X) (h : FC σ τ) : MI τ X := by
  obtain ⟨c1, c2, c3, c4, c5, c6, c7, c8, c9, c10, c11, c12⟩ := hC
  have e : ∀ k, 111 ≤ k → τ.1 k = σ.1 k := h.2.2
  refine ⟨?_, ?_, ?_, ?_, ?_, ?_, ?_, ?_, ?_, ?_, ?_, ?_⟩
  · unfold TM; rw [e 111 (by omega), e 112 (by omega)]; exact c1
  · unfold TwM; rw [e 111 (by omega), e 116 (by omega), e 118 (by omega), e 120 (by omega)]; exact c2
  · rw [e 124 (by omega)]; exact c3
  · unfold AcM; rw [e 111 (by omega), e 128 (by omega)]; exact c4
  · unfold ImM; rw [e 111 (by omega), e 132 (by omega)]; exact c5
  · unfold MsM; rw [e 111 (by omega), e 129 (by omega), e 130 (by omega)]; exact c6
  · unfold LsM; rw [e 111 (by omega), e 114 (by omega), e 113 (by omega)]; exact c7
  · unfold MeM; rw [e 127 (by omega), h.2.1 126 (by omega)]; exact c8
  · obtain ⟨ev, he⟩ := c9; exact ⟨ev, fun j hj => by rw [e 115 (by omega)]; exact he j hj⟩
  · unfold PsM PLM; rw [e 111 (by omega), e 122 (by omega), e 123 (by omega)]; exact c10
  · rw [e 111 (by omega)]; exact c11
  · rw [e 111 (by omega)]; exact c12
/-- what a question to the model leaves -/
def uF (j : Nat) : Prop := j = 6 ∨ j = 7 ∨ j = 26 ∨ j = 27 ∨ j = 30 ∨ j = 34 ∨ j = 35 ∨ j = 36 ∨ j = 40 ∨ j = 45 ∨ j = 47
def uM (k : Nat) : Prop := k = 112 ∨ k = 113 ∨ k = 114 ∨ k = 116 ∨ k = 118 ∨ k = 120 ∨ k = 124 ∨ k = 128 ∨ k = 129 ∨ k = 130 ∨ k = 132
def DF (Ls : LwT) (σ τ : AS) : Prop := FD σ τ ∧ (∀ j, uF j → τ.1 111 j = σ.1 111 j) ∧ (∀ k, uM k → τ.1 k = σ.1 k) ∧ (∀ i, i < 192 → τ.1 122 i = σ.1 122 i) ∧ (∀ i, i ≠ 4 → τ.1 123 i = σ.1 123 i) ∧ (MeM σ Ls → MeM τ Ls) ∧ (LtM σ → LtM τ)
theorem DF.rf {Ls : LwT} {σ : AS} : DF Ls σ σ := ⟨FD.rf, fun _ _ => rfl, fun _ _ => rfl, fun _ _ => rfl, fun _ _ => rfl, fun h => h, fun h => h⟩
theorem DF.tr {Ls : LwT} {σ τ ρ : AS} (h : DF Ls σ τ) (g : DF Ls τ ρ) : DF Ls σ ρ := ⟨h.1.tr g.1, fun j hj => (g.2.1 j hj).trans (h.2.1 j hj), fun k hk => (g.2.2.1 k hk).trans (h.2.2.1 k hk), fun i hi => (g.2.2.2.1 i hi).trans (h.2.2.2.1 i hi), fun i hi => (g.2.2.2.2.1 i hi).trans (h.2.2.2.2.1 i hi), fun q => g.2.2.2.2.2.1 (h.2.2.2.2.2.1 q), fun q => g.2.2.2.2.2.2 (h.2.2.2.2.2.2 q)⟩
theorem MeM_sI {Ls : LwT} {σ : AS} {k : Nat} {f : Nat → Int32} (h : MeM σ Ls) (hk : k ≠ 127) : MeM (sI σ k f) Ls := fun i hi => by rw [sI_ne _ _ _ _ (fun q => hk q.symm)]; exact h i hi
theorem LtM_sI {σ : AS} {k : Nat} {f : Nat → Int32} (h : LtM σ) (hk : k ≠ 115) : LtM (sI σ k f) := by
  obtain ⟨ev, he⟩ := h
  exact ⟨ev, fun j hj => by rw [sI_ne _ _ _ _ (fun q => hk q.symm)]; exact he j hj⟩
theorem DF.f {Ls : LwT} {σ τ : AS} {j : Nat} {x : Int32} (h : DF Ls σ τ) (hj : ¬ uF j) : DF Ls σ (sI τ 111 (upd (τ.1 111) j x)) := ⟨h.1.sI (by omega), fun i hi => by rw [sI_same, upd_ne _ _ _ _ (show i ≠ j from fun q => hj (q ▸ hi))]; exact h.2.1 i hi, fun k hk => by rw [sI_ne _ _ _ _ (by unfold uM at hk; omega)]; exact h.2.2.1 k hk, fun i hi => by rw [sI_ne _ _ _ _ (by decide)]; exact h.2.2.2.1 i hi, fun i hi => by rw [sI_ne _ _ _ _ (by decide)]; exact h.2.2.2.2.1 i hi, fun q => MeM_sI (h.2.2.2.2.2.1 q) (by decide), fun q => LtM_sI (h.2.2.2.2.2.2 q) (by decide)⟩
theorem DF.sI {Ls : LwT} {σ τ : AS} {k : Nat} {f : Nat → Int32} (h : DF Ls σ τ) (h1 : 111 < k) (h2 : ¬ uM k) (h3 : k ≠ 122 ∧ k ≠ 123 ∧ k ≠ 127 ∧ k ≠ 115) : DF Ls σ (sI τ k f) := ⟨h.1.sI (by omega), fun i hi => by rw [sI_ne _ _ _ _ (by omega)]; exact h.2.1 i hi, fun j hj => by rw [sI_ne _ _ _ _ (show j ≠ k from fun q => h2 (q ▸ hj))]; exact h.2.2.1 j hj, fun i hi => by rw [sI_ne _ _ _ _ (by omega)]; exact h.2.2.2.1 i hi, fun i hi => by rw [sI_ne _ _ _ _ (by omega)]; exact h.2.2.2.2.1 i hi, fun q => MeM_sI (h.2.2.2.2.2.1 q) (by omega), fun q => LtM_sI (h.2.2.2.2.2.2 q) (by omega)⟩
theorem DF.n {Ls : LwT} {σ τ : AS} (h : FrN 125 σ τ) (h1 : MeM τ Ls) (h2 : LtM τ) : DF Ls σ τ := by
  refine ⟨⟨fun k hk => h.1 k (by omega) (by omega) (by omega) (by omega), fun k _ hk => h.2.2.1 k hk, h.2.2.2⟩, fun j hj => ?_, fun k hk => ?_, fun i hi => ?_, fun i hi => ?_, fun _ => h1, fun _ => h2⟩
  · unfold uF at hj; exact h.2.1 j (by omega) (by omega) (by omega) (by omega) (by omega) (by omega) (by omega) (by omega)
  · unfold uM at hk; exact h.1 k (by omega) (by omega) (by omega) (by omega)
  · rw [h.1 122 (by decide) (by decide) (by decide) (by decide)]
  · rw [h.1 123 (by decide) (by decide) (by decide) (by decide)]
theorem DF.RO {Ls : LwT} {σ τ : AS} (h : DF Ls σ τ) (hR : RO σ) : RO τ := h.1.RO hR
theorem MI.q {σ τ : AS} {X : XS} (hC : MI σ X) (hK : XK X) (h : DF (xL X) σ τ) : MI τ X := by
  obtain ⟨c1, c2, c3, c4, c5, c6, c7, c8, c9, c10, c11, c12⟩ := hC
  have f := h.2.1
  have e := h.2.2.1
  refine ⟨?_, ?_, ?_, ?_, ?_, ?_, ?_, h.2.2.2.2.2.1 c8, h.2.2.2.2.2.2 c9, ?_, ?_, ?_⟩
  · unfold TM; rw [f 6 (by unfold uF; omega), e 112 (by unfold uM; omega)]; exact c1
  · unfold TwM; rw [f 26 (by unfold uF; omega), f 27 (by unfold uF; omega), e 116 (by unfold uM; omega), e 118 (by unfold uM; omega), e 120 (by unfold uM; omega)]; exact c2
  · rw [e 124 (by unfold uM; omega)]; exact c3
  · unfold AcM; rw [f 40 (by unfold uF; omega), e 128 (by unfold uM; omega)]; exact c4
  · unfold ImM; rw [f 47 (by unfold uF; omega), e 132 (by unfold uM; omega)]; exact c5
  · unfold MsM; rw [f 45 (by unfold uF; omega), e 129 (by unfold uM; omega), e 130 (by unfold uM; omega)]; exact c6
  · unfold LsM; rw [f 7 (by unfold uF; omega), f 34 (by unfold uF; omega), e 114 (by unfold uM; omega), e 113 (by unfold uM; omega)]; exact c7
  · refine ⟨by rw [f 30 (by unfold uF; omega)]; exact c10.1, fun k L hL => ?_⟩
    have hk := (List.getElem?_eq_some_iff.mp hL).1
    have h4 := hK.p.1
    obtain ⟨q1, q2⟩ := c10.2 k L hL
    refine ⟨fun i x hx => ?_, by rw [h.2.2.2.2.1 k (by omega)]; exact q2⟩
    have hi := (List.getElem?_eq_some_iff.mp hx).1
    have h16 := (hK.p.2 L (List.mem_of_getElem? hL)).1
    rw [h.2.2.2.1 _ (by omega), h.2.2.2.1 _ (by omega), h.2.2.2.1 _ (by omega)]
    exact q1 i x hx
  · rw [f 35 (by unfold uF; omega)]; exact c11
  · rw [f 36 (by unfold uF; omega)]; exact c12
theorem MI.ms {σ : AS} {X : XS} (hC : MI σ X) (hR : RO σ) : MS (xs X) (xL X) (xh X) σ := ⟨hR, hC.2.1, hC.2.2.2.2.2.2.1, hC.2.2.2.2.2.2.2.1, hC.2.2.2.2.2.2.2.2.1⟩
