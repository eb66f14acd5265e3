/-! the class: law, odds, image, back, measured -/
def setH (X : XS) (v : Int) : XS := (xt X, xs X, xw X, xl X, xa X, xi X, xm X, xL X, v, xp X, xo X, xk X)
def setSt (X : XS) (v : Int) : XS := (xt X, xs X, xw X, xl X, xa X, xi X, xm X, xL X, xh X, xp X, v, xk X)
def setPk (X : XS) (v : Int) : XS := (xt X, xs X, xw X, xl X, xa X, xi X, xm X, xL X, xh X, xp X, xo X, v)
def setIm (X : XS) (i : Option (WT × LG)) : XS := (xt X, xs X, xw X, xl X, xa X, i, xm X, xL X, xh X, xp X, xo X, xk X)
def setMs (X : XS) (m : List (Nat × Int)) : XS := (xt X, xs X, xw X, xl X, xa X, xi X, m, xL X, xh X, xp X, xo X, xk X)
abbrev canL (X : XS) (a : Int) : Prop := -1 ≤ a ∧ a < (xL X).length
def lawX (X : XS) (a : Int) : XS := if canL X a then setH X a else X
def lawA (X : XS) (a : Int) : Int := if canL X a then 1 else 0
theorem lawK {X : XS} {a : Int} (h : XK X) : XK (lawX X a) := by
  unfold lawX
  split
  · rename_i q
    exact ⟨h.t, h.s, h.w, h.d, h.a, h.i, h.m, ⟨h.L.1, q.1, q.2, h.L.2.2.2⟩, h.p, h.o, h.k⟩
  · exact h
abbrev canO (X : XS) (a b : Int) : Prop := (0 ≤ b ∧ b ≤ 99) ∧ ((a = 0 ∧ b ≠ xo X) ∨ (a = 1 ∧ b ≠ xk X))
def oddX (X : XS) (a b : Int) : XS := if canO X a b then (if a = 0 then setSt X b else setPk X b) else X
def oddA (X : XS) (a b : Int) : Int := if canO X a b then 1 else 0
theorem oddK {X : XS} {a b : Int} (h : XK X) : XK (oddX X a b) := by
  unfold oddX
  split
  · rename_i q
    split
    · exact ⟨h.t, h.s, h.w, h.d, h.a, h.i, h.m, h.L, h.p, q.1, h.k⟩
    · exact ⟨h.t, h.s, h.w, h.d, h.a, h.i, h.m, h.L, h.p, h.o, q.1⟩
  · exact h
def imgX (X : XS) : XS := if 0 < nP (xs X) then setIm X (some (xw X, xl X)) else X
def imgA (X : XS) : Int := if 0 < nP (xs X) then (dy (xw X) : Int) else -1
theorem imgK {X : XS} (h : XK X) : XK (imgX X) := by
  unfold imgX
  split
  · exact ⟨h.t, h.s, h.w, h.d, h.a, fun a l e => by obtain ⟨e1, e2⟩ := Prod.mk.inj (Option.some.inj (show some (xw X, xl X) = some (a, l) from e)); subst e1; exact ⟨h.w, h.d⟩, h.m, h.L, h.p, h.o, h.k⟩
  · exact h
def bckX (X : XS) : XS := match xi X with
  | none => X
  | some (a, l) => upX X a l []
def bckA (X : XS) : Int := match xi X with
  | none => -1
  | some (a, _) => (dy a : Int)
theorem bck_0 {X : XS} (h : xi X = none) : bckX X = X ∧ bckA X = -1 := by unfold bckX bckA; rw [h]; exact ⟨rfl, rfl⟩
theorem bck_1 {X : XS} {a : WT} {l : LG} (h : xi X = some (a, l)) : bckX X = upX X a l [] ∧ bckA X = (dy a : Int) := by unfold bckX bckA; rw [h]; exact ⟨rfl, rfl⟩
theorem bckK {X : XS} (h : XK X) : XK (bckX X) := by
  cases e : xi X with
  | none => rw [(bck_0 e).1]; exact h
  | some p =>
    obtain ⟨a, l⟩ := p
    rw [(bck_1 e).1]
    have hi := h.i a l e
    exact ⟨h.t, h.s, hi.1, hi.2, ⟨by show 0 ≤ 40; decide, trivial, fun b hb => absurd hb (List.not_mem_nil)⟩, h.i, h.m, h.L, h.p, h.o, h.k⟩
abbrev canM (X : XS) (a b : Int) : Prop := (0 ≤ a ∧ a < nP (xs X)) ∧ (-9 ≤ b ∧ b ≤ 9) ∧ (xm X).length < 10
def msrX (X : XS) (a b : Int) : XS := if canM X a b then setMs X (xm X ++ [(a.toNat, b)]) else X
def msrA (X : XS) (a b : Int) : Int := if canM X a b then ((xm X).length : Int) + 1 else -1
theorem msrK {X : XS} {a b : Int} (h : XK X) : XK (msrX X a b) := by
  unfold msrX
  split
  · rename_i q
    refine ⟨h.t, h.s, h.w, h.d, h.a, h.i, ⟨?_, fun m hm => ?_⟩, h.L, h.p, h.o, h.k⟩
    · show (xm X ++ [(a.toNat, b)]).length ≤ 10
      rw [List.length_append]; have := q.2.2; show _ + 1 ≤ 10; omega
    · rcases List.mem_append.mp (show m ∈ xm X ++ [(a.toNat, b)] from hm) with e | e
      · exact h.m.2 m e
      · have e : m = (a.toNat, b) := by simpa using e
        rw [e]
        exact ⟨by show a.toNat < nP (xs X); omega, q.2.1⟩
  · exact h
/-- one cell of the class has changed -/
theorem CI_47 {σ : AS} {X : XS} {v : Int} (hC : CI σ X) (hK : XK X) : CI (sI σ 48 (upd (σ.1 48) 2 (iI v))) (setH X v) := by
  obtain ⟨c1, c2, c3, c4, c5, c6, c7, c8, c9, c10, c11⟩ := hC
  have e : ∀ k, k ≠ 48 → (sI σ 48 (upd (σ.1 48) 2 (iI v))).1 k = σ.1 k := fun k hk => sI_ne _ _ _ _ hk
  refine ⟨⟨by rw [e 1 (by decide)]; exact c1.1, fun i b hb => by rw [e 2 (by decide)]; exact c1.2 i b hb⟩, TwC_fr c2 hK.s.1 hK.s.2.1 (fun k a b => e k (by omega)), WC_fr c3 (fun k a b => e k (by omega)), ?_, AcC_fr c5 (e _ (by omega)) (e _ (by omega)), ImC_fr c6 (by rw [e 0 (by omega)]) (fun k a b => e k (by omega)), MsC_fr c7 (fun k a b => e k (by omega)), ⟨by rw [sI_same, upd_ne _ _ _ _ (by decide)]; exact c8.1, by rw [sI_same, upd_same]; rfl, fun k x hx => ?_⟩, PsC_fr c9 hK.p.1 (by rw [e 0 (by omega)]) (fun k a b => e k (by omega)), by rw [e 0 (by omega)]; exact c10, by rw [e 0 (by omega)]; exact c11⟩
  · unfold ChC; rw [e 91 (by omega), e 92 (by omega)]; exact c4
  · have h3 := c8.2.2 k x hx
    unfold LwC
    rw [e _ (by omega), e _ (by omega)]
    exact h3
theorem CI_0 {σ : AS} {X Y : XS} {j : Nat} {v : Int32} (hC : CI σ X) (hK : XK X) (hj : j ≠ 7) (e1 : xt Y = xt X) (e2 : xs Y = xs X) (e3 : xw Y = xw X) (e4 : xl Y = xl X) (e5 : xa Y = xa X) (e7 : xm Y = xm X) (e8 : xL Y = xL X) (e9 : xh Y = xh X) (e10 : xp Y = xp X) (h6 : ImC (sI σ 0 (upd (σ.1 0) j v)) (xi Y)) (h10 : (sI σ 0 (upd (σ.1 0) j v)).1 0 16 = iI (xo Y)) (h11 : (sI σ 0 (upd (σ.1 0) j v)).1 0 17 = iI (xk Y)) : CI (sI σ 0 (upd (σ.1 0) j v)) Y := by
  obtain ⟨c1, c2, c3, c4, c5, c6, c7, c8, c9, c10, c11⟩ := hC
  have e : ∀ k, k ≠ 0 → (sI σ 0 (upd (σ.1 0) j v)).1 k = σ.1 k := fun k hk => sI_ne _ _ _ _ hk
  unfold CI
  rw [e1, e2, e3, e4, e5, e7, e8, e9, e10]
  refine ⟨⟨by rw [e 1 (by decide)]; exact c1.1, fun i b hb => by rw [e 2 (by decide)]; exact c1.2 i b hb⟩, TwC_fr c2 hK.s.1 hK.s.2.1 (fun k a b => e k (by omega)), WC_fr c3 (fun k a b => e k (by omega)), ?_, AcC_fr c5 (e _ (by omega)) (e _ (by omega)), h6, MsC_fr c7 (fun k a b => e k (by omega)), LsC_fr c8 hK.L.1 (fun k a => e k (by omega)), PsC_fr c9 hK.p.1 (by rw [sI_same, upd_ne _ _ _ _ (fun q => hj q.symm)]) (fun k a b => e k (by omega)), h10, h11⟩
  unfold ChC; rw [e 91 (by omega), e 92 (by omega)]; exact c4
theorem ct_X11_law {l : Launch} {D : va_G} {cA ad : Nat → Nat} {d : Nat} {σ : AS} {K : Option Value → AS → Prop} {X : XS} {a : Int} (hR : RO σ) (hK0 : XK X) (hC : CI σ X) (ha32 : -2147483648 ≤ a ∧ a < 2147483648) (hK : ∀ τ, FC σ τ → CI τ (lawX X a) → K (some (.int (iI (lawA X a)))) τ) : Call l D cA ad d mX11_law [.ref 0, .int (iI a)] σ K := by
  have h4 := hK0.L.1
  refine call_go (by decide) (Nat.le_of_ble_eq_true rfl) (show Go l D cA ad d mX11_law 0 [.ref 0, .int (iI a)] [] σ K from ?_)
  refine go_iload_n dX11_law_0 rfl ?_
  refine go_iconst (v := iI (-1)) dX11_law_1 (by decide) ?_
  refine go_icmp_lt (tgt := 16) dX11_law_2 (by decide) (fun h2 => ?_) (fun h2 => ?_)
  · rw [iI_lt (by omega)] at h2
    refine go_iconst (v := iI 0) dX11_law_16 (by decide) ?_
    refine go_iret rfl rfl dX11_law_17 ?_
    have e1 : lawX X a = X := by unfold lawX; rw [if_neg (by omega)]
    have e2 : lawA X a = 0 := by unfold lawA; rw [if_neg (by omega)]
    rw [e1, e2] at hK
    exact hK σ FC.rf hC
  · rw [iI_lt (by omega)] at h2
    refine go_iload_n dX11_law_5 rfl ?_
    refine go_aload_n dX11_law_6 rfl ?_
    refine go_getR fX11_40 dX11_law_7 rfl (hR _ _ _ rfl) ?_
    refine go_getI fX11_175 dX11_law_10 rfl ?_
    rw [hC.2.2.2.2.2.2.2.1.1]
    refine go_icmp_lt (tgt := 18) dX11_law_13 (by decide) (fun h13 => ?_) (fun h13 => ?_)
    · rw [iI_lt (by omega)] at h13
      refine go_aload_n dX11_law_18 rfl ?_
      refine go_getR fX11_40 dX11_law_19 rfl (hR _ _ _ rfl) ?_
      refine go_iload_n dX11_law_22 rfl ?_
      refine go_putI fX11_178 rfl dX11_law_23 rfl rfl rfl ?_
      refine go_iconst (v := iI 1) dX11_law_26 (by decide) ?_
      refine go_iret rfl rfl dX11_law_27 ?_
      have e1 : lawX X a = setH X a := by unfold lawX; rw [if_pos (by omega)]
      have e2 : lawA X a = 1 := by unfold lawA; rw [if_pos (by omega)]
      rw [e1, e2] at hK
      exact hK _ (FC.rf.sI (by decide)) (CI_47 hC hK0)
    · rw [iI_lt (by omega)] at h13
      refine go_iconst (v := iI 0) dX11_law_16 (by decide) ?_
      refine go_iret rfl rfl dX11_law_17 ?_
      have e1 : lawX X a = X := by unfold lawX; rw [if_neg (by omega)]
      have e2 : lawA X a = 0 := by unfold lawA; rw [if_neg (by omega)]
      rw [e1, e2] at hK
      exact hK σ FC.rf hC

theorem ct_X11_odds {l : Launch} {D : va_G} {cA ad : Nat → Nat} {d : Nat} {σ : AS} {K : Option Value → AS → Prop} {X : XS} {a b : Int} (hR : RO σ) (hK0 : XK X) (hC : CI σ X) (ha32 : -2147483648 ≤ a ∧ a < 2147483648) (hb32 : -2147483648 ≤ b ∧ b < 2147483648) (hK : ∀ τ, FC σ τ → CI τ (oddX X a b) → K (some (.int (iI (oddA X a b)))) τ) : Call l D cA ad d mX11_odds [.ref 0, .int (iI a), .int (iI b)] σ K := by
  have h5 := hK0.o
  have h6 := hK0.k
  refine call_go (by decide) (Nat.le_of_ble_eq_true rfl) (show Go l D cA ad d mX11_odds 0 [.ref 0, .int (iI a), .int (iI b)] [] σ K from ?_)
  refine go_iload_n dX11_odds_0 rfl ?_
  refine go_if_lt (tgt := 10) dX11_odds_1 (by decide) (fun h1 => ?_) (fun h1 => ?_)
  · rw [iI_lt0 (by omega)] at h1
    refine go_iconst (v := iI 0) dX11_odds_10 (by decide) ?_
    refine go_iret rfl rfl dX11_odds_11 ?_
    have e1 : oddX X a b = X := by unfold oddX; rw [if_neg (by omega)]
    have e2 : oddA X a b = 0 := by unfold oddA; rw [if_neg (by omega)]
    rw [e1, e2] at hK
    exact hK σ FC.rf hC
  · rw [iI_lt0 (by omega)] at h1
    refine go_iload_n dX11_odds_4 rfl ?_
    refine go_bipush (v := iI 99) dX11_odds_5 (by decide) ?_
    refine go_icmp_le (tgt := 12) dX11_odds_7 (by decide) (fun h7 => ?_) (fun h7 => ?_)
    · rw [iI_le (by omega)] at h7
      refine go_iload_n dX11_odds_12 rfl ?_
      refine go_if_ne (tgt := 31) dX11_odds_13 (by decide) (fun h13 => ?_) (fun h13 => ?_)
      · rw [iI_eq0 (by omega)] at h13
        refine go_iload_n dX11_odds_31 rfl ?_
        refine go_iconst (v := iI 1) dX11_odds_32 (by decide) ?_
        refine go_icmp_ne (tgt := 51) dX11_odds_33 (by decide) (fun h33 => ?_) (fun h33 => ?_)
        · rw [iI_eq (by omega)] at h33
          refine go_iconst (v := iI 0) dX11_odds_51 (by decide) ?_
          refine go_iret rfl rfl dX11_odds_52 ?_
          have e1 : oddX X a b = X := by unfold oddX; rw [if_neg (by omega)]
          have e2 : oddA X a b = 0 := by unfold oddA; rw [if_neg (by omega)]
          rw [e1, e2] at hK
          exact hK σ FC.rf hC
        · rw [iI_eq (by omega)] at h33
          refine go_iload_n dX11_odds_36 rfl ?_
          refine go_aload_n dX11_odds_37 rfl ?_
          refine go_getI fX11_181 dX11_odds_38 rfl ?_
          rw [hC.2.2.2.2.2.2.2.2.2.2]
          refine go_icmp_eq (tgt := 51) dX11_odds_41 (by decide) (fun h41 => ?_) (fun h41 => ?_)
          · rw [iI_eq (by omega)] at h41
            refine go_iconst (v := iI 0) dX11_odds_51 (by decide) ?_
            refine go_iret rfl rfl dX11_odds_52 ?_
            have e1 : oddX X a b = X := by unfold oddX; rw [if_neg (by omega)]
            have e2 : oddA X a b = 0 := by unfold oddA; rw [if_neg (by omega)]
            rw [e1, e2] at hK
            exact hK σ FC.rf hC
          · rw [iI_eq (by omega)] at h41
            refine go_aload_n dX11_odds_44 rfl ?_
            refine go_iload_n dX11_odds_45 rfl ?_
            refine go_putI fX11_181 rfl dX11_odds_46 rfl rfl rfl ?_
            refine go_iconst (v := iI 1) dX11_odds_49 (by decide) ?_
            refine go_iret rfl rfl dX11_odds_50 ?_
            have e1 : oddX X a b = setPk X b := by unfold oddX; rw [if_pos (by omega), if_neg (by omega)]
            have e2 : oddA X a b = 1 := by unfold oddA; rw [if_pos (by omega)]
            rw [e1, e2] at hK
            exact hK _ (FC.rf.sI (by decide)) (CI_0 hC hK0 (by decide) rfl rfl rfl rfl rfl rfl rfl rfl rfl (ImC_fr hC.2.2.2.2.2.1 (by rw [sI_same, upd_ne _ _ _ _ (by decide)]) (fun k a b => sI_ne _ _ _ _ (by omega))) (by rw [sI_same, upd_ne _ _ _ _ (by decide)]; exact hC.2.2.2.2.2.2.2.2.2.1) (by rw [sI_same, upd_same]; rfl))
      · rw [iI_eq0 (by omega)] at h13
        refine go_iload_n dX11_odds_16 rfl ?_
        refine go_aload_n dX11_odds_17 rfl ?_
        refine go_getI fX11_98 dX11_odds_18 rfl ?_
        rw [hC.2.2.2.2.2.2.2.2.2.1]
        refine go_icmp_eq (tgt := 31) dX11_odds_21 (by decide) (fun h21 => ?_) (fun h21 => ?_)
        · rw [iI_eq (by omega)] at h21
          refine go_iload_n dX11_odds_31 rfl ?_
          refine go_iconst (v := iI 1) dX11_odds_32 (by decide) ?_
          refine go_icmp_ne (tgt := 51) dX11_odds_33 (by decide) (fun h33 => ?_) (fun h33 => ?_)
          · rw [iI_eq (by omega)] at h33
            refine go_iconst (v := iI 0) dX11_odds_51 (by decide) ?_
            refine go_iret rfl rfl dX11_odds_52 ?_
            have e1 : oddX X a b = X := by unfold oddX; rw [if_neg (by omega)]
            have e2 : oddA X a b = 0 := by unfold oddA; rw [if_neg (by omega)]
            rw [e1, e2] at hK
            exact hK σ FC.rf hC
          · rw [iI_eq (by omega)] at h33
            refine go_iload_n dX11_odds_36 rfl ?_
            refine go_aload_n dX11_odds_37 rfl ?_
            refine go_getI fX11_181 dX11_odds_38 rfl ?_
            rw [hC.2.2.2.2.2.2.2.2.2.2]
            refine go_icmp_eq (tgt := 51) dX11_odds_41 (by decide) (fun h41 => ?_) (fun h41 => ?_)
            · rw [iI_eq (by omega)] at h41
              refine go_iconst (v := iI 0) dX11_odds_51 (by decide) ?_
              refine go_iret rfl rfl dX11_odds_52 ?_
              have e1 : oddX X a b = X := by unfold oddX; rw [if_neg (by omega)]
              have e2 : oddA X a b = 0 := by unfold oddA; rw [if_neg (by omega)]
              rw [e1, e2] at hK
              exact hK σ FC.rf hC
            · rw [iI_eq (by omega)] at h41
              refine go_aload_n dX11_odds_44 rfl ?_
              refine go_iload_n dX11_odds_45 rfl ?_
              refine go_putI fX11_181 rfl dX11_odds_46 rfl rfl rfl ?_
              refine go_iconst (v := iI 1) dX11_odds_49 (by decide) ?_
              refine go_iret rfl rfl dX11_odds_50 ?_
              have e1 : oddX X a b = setPk X b := by unfold oddX; rw [if_pos (by omega), if_neg (by omega)]
              have e2 : oddA X a b = 1 := by unfold oddA; rw [if_pos (by omega)]
              rw [e1, e2] at hK
              exact hK _ (FC.rf.sI (by decide)) (CI_0 hC hK0 (by decide) rfl rfl rfl rfl rfl rfl rfl rfl rfl (ImC_fr hC.2.2.2.2.2.1 (by rw [sI_same, upd_ne _ _ _ _ (by decide)]) (fun k a b => sI_ne _ _ _ _ (by omega))) (by rw [sI_same, upd_ne _ _ _ _ (by decide)]; exact hC.2.2.2.2.2.2.2.2.2.1) (by rw [sI_same, upd_same]; rfl))
        · rw [iI_eq (by omega)] at h21
          refine go_aload_n dX11_odds_24 rfl ?_
          refine go_iload_n dX11_odds_25 rfl ?_
          refine go_putI fX11_98 rfl dX11_odds_26 rfl rfl rfl ?_
          refine go_iconst (v := iI 1) dX11_odds_29 (by decide) ?_
          refine go_iret rfl rfl dX11_odds_30 ?_
          have e1 : oddX X a b = setSt X b := by unfold oddX; rw [if_pos (by omega), if_pos (by omega)]
          have e2 : oddA X a b = 1 := by unfold oddA; rw [if_pos (by omega)]
          rw [e1, e2] at hK
          exact hK _ (FC.rf.sI (by decide)) (CI_0 hC hK0 (by decide) rfl rfl rfl rfl rfl rfl rfl rfl rfl (ImC_fr hC.2.2.2.2.2.1 (by rw [sI_same, upd_ne _ _ _ _ (by decide)]) (fun k a b => sI_ne _ _ _ _ (by omega))) (by rw [sI_same, upd_same]; rfl) (by rw [sI_same, upd_ne _ _ _ _ (by decide)]; exact hC.2.2.2.2.2.2.2.2.2.2))
    · rw [iI_le (by omega)] at h7
      refine go_iconst (v := iI 0) dX11_odds_10 (by decide) ?_
      refine go_iret rfl rfl dX11_odds_11 ?_
      have e1 : oddX X a b = X := by unfold oddX; rw [if_neg (by omega)]
      have e2 : oddA X a b = 0 := by unfold oddA; rw [if_neg (by omega)]
      rw [e1, e2] at hK
      exact hK σ FC.rf hC

theorem ct_X11_image {l : Launch} {D : va_G} {cA ad : Nat → Nat} {d : Nat} {σ : AS} {K : Option Value → AS → Prop} {X : XS} (hR : RO σ) (hK0 : XK X) (hC : CI σ X) (hK : ∀ τ, FC σ τ → CI τ (imgX X) → K (some (.int (iI (imgA X)))) τ) : Call l D cA ad (d + 2) mX11_image [.ref 0] σ K := by
  refine call_go (by decide) (Nat.le_of_ble_eq_true rfl) (show Go l D cA ad (d + 2) mX11_image 0 [.ref 0] [] σ K from ?_)
  refine go_aload_n dX11_image_0 rfl ?_
  refine go_getR fX11_19 dX11_image_1 rfl (hR _ _ _ rfl) ?_
  refine go_callV (as := []) wX11_135 dX11_image_4 rfl rfl rfl rfl (Nat.le_of_ble_eq_true rfl) (ct_told2 hC.2.1 hK0.s (fun hn => ?_) (fun hn => ?_))
  · refine go_if_ne (tgt := 12) dX11_image_7 (by decide) (fun h7 => ?_) (fun h7 => ?_)
    · refine go_aload_n dX11_image_12 rfl ?_
      refine go_getR fX11_76 dX11_image_13 rfl (hR _ _ _ rfl) ?_
      refine go_aload_n dX11_image_16 rfl ?_
      refine go_getR fX11_58 dX11_image_17 rfl (hR _ _ _ rfl) ?_
      refine go_callV (as := [_]) wX11_342 dX11_image_20 rfl rfl rfl rfl (Nat.le_of_ble_eq_true rfl) (ct_X10_become hR WB_95 WB_87 (by decide) hC.2.2.1 (fun τ fr hW => ?_))
      refine go_aload_n dX11_image_23 rfl ?_
      refine go_getR fX11_79 dX11_image_24 rfl (fr.RO hR _ _ _ rfl) ?_
      refine go_aload_n dX11_image_27 rfl ?_
      refine go_getR fX11_65 dX11_image_28 rfl (fr.RO hR _ _ _ rfl) ?_
      refine go_callV (as := [_]) wX11_346 dX11_image_31 rfl rfl rfl rfl (Nat.le_of_ble_eq_true rfl) (ct_become99 (fr.RO hR) (fun ρ fs h1 h2 => ?_))
      have e0 : ∀ k, k < 95 ∨ 100 < k → ρ.1 k = σ.1 k := fun k hk => by rw [fs.2 k (by simp only [List.mem_cons, List.not_mem_nil, or_false]; omega), fr.2 k (by omega)]
      refine go_aload_n dX11_image_34 rfl ?_
      refine go_iconst (v := iI 1) dX11_image_35 (by decide) ?_
      refine go_putI fX11_349 rfl dX11_image_36 rfl rfl rfl ?_
      refine go_aload_n dX11_image_39 rfl ?_
      refine go_getR fX11_58 dX11_image_40 rfl (fs.RO (fr.RO hR) _ _ _ rfl) ?_
      refine go_getI fX11_192 dX11_image_43 rfl ?_
      rw [sI_ne _ _ _ _ (by decide), e0 87 (by decide), hC.2.2.1.2.2.2]
      refine go_iret rfl rfl dX11_image_46 ?_
      have e1 : imgX X = setIm X (some (xw X, xl X)) := by unfold imgX; rw [if_pos hn]
      have e2 : imgA X = (dy (xw X) : Int) := by unfold imgA; rw [if_pos hn]
      rw [e1, e2] at hK
      refine hK _ (((FC.ofR fr (by decide)).tr (FC.ofS fs (by decide))).sI (by decide)) ?_
      obtain ⟨c1, c2, c3, c4, c5, c6, c7, c8, c9, c10, c11⟩ := hC
      have e : ∀ k, k ≠ 0 → k < 95 ∨ 100 < k → (sI ρ 0 (upd (ρ.1 0) 13 (iI 1))).1 k = σ.1 k := fun k hk h => by rw [sI_ne _ _ _ _ hk]; exact e0 k h
      have e13 : ∀ j, j ≠ 13 → (sI ρ 0 (upd (ρ.1 0) 13 (iI 1))).1 0 j = σ.1 0 j := fun j hj => by rw [sI_same, upd_ne _ _ _ _ hj, e0 0 (by decide)]
      refine ⟨⟨by rw [e 1 (by decide) (by decide)]; exact c1.1, fun i b hb => by rw [e 2 (by decide) (by decide)]; exact c1.2 i b hb⟩, TwC_fr c2 hK0.s.1 hK0.s.2.1 (fun k a b => e k (by omega) (by omega)), WC_fr c3 (fun k a b => e k (by omega) (by omega)), ?_, AcC_fr c5 (e _ (by omega) (by omega)) (e _ (by omega) (by omega)), ⟨by rw [sI_same, upd_same]; rfl, fun a l q => ?_⟩, MsC_fr c7 (fun k a b => e k (by omega) (by omega)), LsC_fr c8 hK0.L.1 (fun k a => e k (by omega) (by omega)), PsC_fr c9 hK0.p.1 (e13 7 (by decide)) (fun k a b => e k (by omega) (by omega)), by rw [e13 16 (by decide)]; exact c10, by rw [e13 17 (by decide)]; exact c11⟩
      · unfold ChC; rw [e 91 (by omega) (by omega), e 92 (by omega) (by omega)]; exact c4
      · obtain ⟨q1, q2⟩ := Prod.mk.inj (Option.some.inj (show some (xw X, xl X) = some (a, l) from q))
        subst q1; subst q2
        refine ⟨?_, ?_, fun i k r1 r2 r3 => ?_⟩
        · refine WC_fr (σ := τ) hW (fun k a b => ?_)
          rw [sI_ne _ _ _ _ (by omega), fs.2 k (by simp only [List.mem_cons, List.not_mem_nil, or_false]; omega)]
        · rw [sI_ne _ _ _ _ (by decide), h1, fr.2 91 (by decide)]; exact c4.1
        · rw [sI_ne _ _ _ _ (by decide), h2 _ (by omega), fr.2 92 (by decide)]
          exact c4.2 (xw X) (List.mem_cons_self ..) i k r1 r2 r3
    · exact absurd h7 (by decide)
  · refine go_if_ne (tgt := 12) dX11_image_7 (by decide) (fun h7 => ?_) (fun h7 => ?_)
    · exact absurd h7 (by decide)
    · refine go_iconst (v := iI (-1)) dX11_image_10 (by decide) ?_
      refine go_iret rfl rfl dX11_image_11 ?_
      have e1 : imgX X = X := by unfold imgX; rw [if_neg (by omega)]
      have e2 : imgA X = -1 := by unfold imgA; rw [if_neg (by omega)]
      rw [e1, e2] at hK
      exact hK σ FC.rf hC

theorem ct_X11_back {l : Launch} {D : va_G} {cA ad : Nat → Nat} {d : Nat} {σ : AS} {K : Option Value → AS → Prop} {X : XS} (hR : RO σ) (hK0 : XK X) (hC : CI σ X) (hK : ∀ τ, FC σ τ → CI τ (bckX X) → K (some (.int (iI (bckA X)))) τ) : Call l D cA ad (d + 2) mX11_back [.ref 0] σ K := by
  refine call_go (by decide) (Nat.le_of_ble_eq_true rfl) (show Go l D cA ad (d + 2) mX11_back 0 [.ref 0] [] σ K from ?_)
  refine go_aload_n dX11_back_0 rfl ?_
  refine go_getI fX11_349 dX11_back_1 rfl ?_
  refine go_if_ne (tgt := 9) dX11_back_4 (by decide) (fun h4 => ?_) (fun h4 => ?_)
  · rw [hC.2.2.2.2.2.1.1] at h4
    obtain ⟨a, lg, hi⟩ : ∃ a lg, xi X = some (a, lg) := by
      cases e : xi X with
      | none => rw [e] at h4; exact absurd rfl h4
      | some p => exact ⟨p.1, p.2, rfl⟩
    have him := hC.2.2.2.2.2.1.2 a lg hi
    refine go_aload_n dX11_back_9 rfl ?_
    refine go_getR fX11_58 dX11_back_10 rfl (hR _ _ _ rfl) ?_
    refine go_aload_n dX11_back_13 rfl ?_
    refine go_getR fX11_76 dX11_back_14 rfl (hR _ _ _ rfl) ?_
    refine go_callV (as := [_]) wX11_342 dX11_back_17 rfl rfl rfl rfl (Nat.le_of_ble_eq_true rfl) (ct_X10_become hR WB_87 WB_95 (by decide) him.1 (fun τ fr hW => ?_))
    refine go_aload_n dX11_back_20 rfl ?_
    refine go_getR fX11_65 dX11_back_21 rfl (fr.RO hR _ _ _ rfl) ?_
    refine go_aload_n dX11_back_24 rfl ?_
    refine go_getR fX11_79 dX11_back_25 rfl (fr.RO hR _ _ _ rfl) ?_
    refine go_callV (as := [_]) wX11_346 dX11_back_28 rfl rfl rfl rfl (Nat.le_of_ble_eq_true rfl) (ct_become91 (fr.RO hR) (fun ρ fs h1 h2 => ?_))
    refine go_aload_n dX11_back_31 rfl ?_
    refine go_getR fX11_72 dX11_back_32 rfl (fs.RO (fr.RO hR) _ _ _ rfl) ?_
    refine go_callV (as := []) wX11_353 dX11_back_35 rfl rfl rfl rfl (Nat.le_of_ble_eq_true rfl) (ct_X0_forget ?_)
    refine go_aload_n dX11_back_38 rfl ?_
    refine go_getR fX11_58 dX11_back_39 rfl (fs.RO (fr.RO hR) _ _ _ rfl) ?_
    refine go_getI fX11_192 dX11_back_42 rfl ?_
    rw [sI_ne _ _ _ _ (by decide), fs.2 87 (by decide), hW.2.2.2]
    refine go_iret rfl rfl dX11_back_45 ?_
    rw [(bck_1 hi).1, (bck_1 hi).2] at hK
    refine hK _ (((FC.ofR fr (by decide)).tr (FC.ofS fs (by decide))).sI (by decide)) ?_
    have e : ∀ k, uC k → k < 87 ∨ 94 < k → (sI ρ 93 (upd (ρ.1 93) 0 (iI 0))).1 k = σ.1 k := fun k _ hk => by rw [sI_ne _ _ _ _ (by omega), fs.2 k (by simp only [List.mem_cons, List.not_mem_nil, or_false]; omega), fr.2 k (by omega)]
    have hA : AcC ρ (xa X) := AcC_fr hC.2.2.2.2.1 (by rw [fs.2 93 (by decide), fr.2 93 (by decide)]) (by rw [fs.2 94 (by decide), fr.2 94 (by decide)])
    refine hC.up hK0 e (by rw [sI_ne _ _ _ _ (by decide), fs.2 1 (by decide), fr.2 1 (by decide)]) ?_ ⟨?_, fun b hb => ?_⟩ (AcC_nil hA)
    · refine WC_fr (σ := τ) hW (fun k a b => ?_)
      rw [sI_ne _ _ _ _ (by omega), fs.2 k (by simp only [List.mem_cons, List.not_mem_nil, or_false]; omega)]
    · rw [sI_ne _ _ _ _ (by decide), h1, fr.2 99 (by decide)]; exact him.2.1
    · have hb : b = a := by simpa using hb
      subst hb
      intro i k r1 r2 r3
      rw [sI_ne _ _ _ _ (by decide), h2 _ (by omega), fr.2 100 (by decide)]
      exact him.2.2 i k r1 r2 r3
  · rw [hC.2.2.2.2.2.1.1] at h4
    have hi : xi X = none := by
      cases e : xi X with
      | none => rfl
      | some p => rw [e] at h4; exact absurd (show iI 1 = 0 from h4) (by decide)
    refine go_iconst (v := iI (-1)) dX11_back_7 (by decide) ?_
    refine go_iret rfl rfl dX11_back_8 ?_
    rw [(bck_0 hi).1, (bck_0 hi).2] at hK
    exact hK σ FC.rf hC

theorem ct_X5_add {l : Launch} {D : va_G} {cA ad : Nat → Nat} {d : Nat} {σ : AS} {K : Option Value → AS → Prop} {ms : List (Nat × Int)} {p : Nat} {y : Int} (hR : RO σ) (hM : MsC σ ms) (hl : ms.length ≤ 10) (hK1 : ms.length < 10 → ∀ τ, FrS [101, 102, 103] σ τ → MsC τ (ms ++ [(p, y)]) → K (some (.int (iI 1))) τ) (hK2 : ¬ ms.length < 10 → K (some (.int (iI 0))) σ) : Call l D cA ad d mX5_add [.ref 101, .int (iI (p : Nat)), .int (iI y)] σ K := by
  refine call_go (by decide) (Nat.le_of_ble_eq_true rfl) (show Go l D cA ad d mX5_add 0 [.ref 101, .int (iI (p : Nat)), .int (iI y)] [] σ K from ?_)
  refine go_aload_n dX5_add_0 rfl ?_
  refine go_getI fX5_25 dX5_add_1 rfl ?_
  refine go_bipush (v := iI 10) dX5_add_4 (by decide) ?_
  rw [hM.1]
  refine go_icmp_lt (tgt := 11) dX5_add_6 (by decide) (fun h6 => ?_) (fun h6 => ?_)
  · rw [iI_lt (by omega)] at h6
    refine go_aload_n dX5_add_11 rfl ?_
    refine go_getR fX5_9 dX5_add_12 rfl (hR _ _ _ rfl) ?_
    refine go_aload_n dX5_add_15 rfl ?_
    refine go_getI fX5_25 dX5_add_16 rfl ?_
    rw [hM.1]
    refine go_iload_n dX5_add_19 rfl ?_
    refine go_iast dX5_add_20 rfl (vp_iI (by omega)) ?_
    rw [cl_n _ (by omega)]
    refine go_aload_n dX5_add_21 rfl ?_
    refine go_getR fX5_15 dX5_add_22 rfl (hR _ _ _ rfl) ?_
    refine go_aload_n dX5_add_25 rfl ?_
    refine go_getI fX5_25 dX5_add_26 rfl ?_
    rw [sI_ne _ _ _ _ (by decide), hM.1]
    refine go_iload_n dX5_add_29 rfl ?_
    refine go_iast dX5_add_30 rfl (vp_iI (by omega)) ?_
    rw [cl_n _ (by omega), sI_ne _ _ _ _ (by decide)]
    refine go_aload_n dX5_add_31 rfl ?_
    refine go_dup dX5_add_32 rfl ?_
    refine go_getI fX5_25 dX5_add_33 rfl ?_
    rw [sI_ne _ _ _ _ (by decide), sI_ne _ _ _ _ (by decide), hM.1]
    refine go_iconst (v := iI 1) dX5_add_36 (by decide) ?_
    refine go_iadd dX5_add_37 ?_
    rw [iI_add]
    refine go_putI fX5_25 rfl dX5_add_38 rfl rfl rfl ?_
    rw [sI_ne _ _ _ _ (by decide), sI_ne _ _ _ _ (by decide)]
    refine go_iconst (v := iI 1) dX5_add_41 (by decide) ?_
    refine go_iret rfl rfl dX5_add_42 ?_
    refine hK1 (by omega) _ (((FrS.rf.sI (by decide)).sI (by decide)).sI (by decide)) ⟨?_, fun j m hj => ?_⟩
    · rw [sI_same, upd_same, List.length_append]; rfl
    · rw [sI_ne _ _ _ _ (by decide), sI_ne _ _ _ _ (by decide), sI_same, sI_ne _ _ _ _ (by decide), sI_same]
      by_cases c : j < ms.length
      · rw [List.getElem?_append_left c] at hj
        rw [upd_ne _ _ _ _ (by omega), upd_ne _ _ _ _ (by omega)]
        exact hM.2 j m hj
      · have hjl := (List.getElem?_eq_some_iff.mp hj).1
        rw [List.length_append] at hjl
        have hj2 : j = ms.length := by simp only [List.length_cons, List.length_nil] at hjl; omega
        subst hj2
        rw [List.getElem?_append_right (Nat.le_refl _), Nat.sub_self] at hj
        have e : (p, y) = m := by simpa using hj
        subst e
        rw [upd_same, upd_same]
        exact ⟨rfl, rfl⟩
  · rw [iI_lt (by omega)] at h6
    refine go_iconst (v := iI 0) dX5_add_9 (by decide) ?_
    refine go_iret rfl rfl dX5_add_10 ?_
    exact hK2 (by omega)

theorem CI_ms {σ τ : AS} {X : XS} {m : List (Nat × Int)} (hC : CI σ X) (hK : XK X) (fs : FrS [101, 102, 103] σ τ) (h : MsC τ m) : CI τ (setMs X m) := by
  obtain ⟨c1, c2, c3, c4, c5, c6, c7, c8, c9, c10, c11⟩ := hC
  have e : ∀ k, k < 101 → τ.1 k = σ.1 k := fun k hk => fs.2 k (by simp only [List.mem_cons, List.not_mem_nil, or_false]; omega)
  refine ⟨⟨by rw [e 1 (by decide)]; exact c1.1, fun i b hb => by rw [e 2 (by decide)]; exact c1.2 i b hb⟩, TwC_fr c2 hK.s.1 hK.s.2.1 (fun k a b => e k (by omega)), WC_fr c3 (fun k a b => e k (by omega)), ?_, AcC_fr c5 (e _ (by omega)) (e _ (by omega)), ImC_fr c6 (by rw [e 0 (by omega)]) (fun k a b => e k (by omega)), h, LsC_fr c8 hK.L.1 (fun k a => e k (by omega)), PsC_fr c9 hK.p.1 (by rw [e 0 (by omega)]) (fun k a b => e k (by omega)), by rw [e 0 (by omega)]; exact c10, by rw [e 0 (by omega)]; exact c11⟩
  unfold ChC; rw [e 91 (by omega), e 92 (by omega)]; exact c4
theorem ct_X11_measured {l : Launch} {D : va_G} {cA ad : Nat → Nat} {d : Nat} {σ : AS} {K : Option Value → AS → Prop} {X : XS} {a b : Int} (hR : RO σ) (hK0 : XK X) (hC : CI σ X) (ha32 : -2147483648 ≤ a ∧ a < 2147483648) (hb32 : -2147483648 ≤ b ∧ b < 2147483648) (hK : ∀ τ, FC σ τ → CI τ (msrX X a b) → K (some (.int (iI (msrA X a b)))) τ) : Call l D cA ad (d + 1) mX11_measured [.ref 0, .int (iI a), .int (iI b)] σ K := by
  have hP7 := hK0.s.1
  have hQ9 := hK0.s.2.1
  refine call_go (by decide) (Nat.le_of_ble_eq_true rfl) (show Go l D cA ad (d + 1) mX11_measured 0 [.ref 0, .int (iI a), .int (iI b)] [] σ K from ?_)
  refine go_aload_n dX11_measured_0 rfl ?_
  refine go_getR fX11_19 dX11_measured_1 rfl (hR _ _ _ rfl) ?_
  refine go_iload_n dX11_measured_4 rfl ?_
  refine go_callV (as := [_]) wX11_142 dX11_measured_5 rfl rfl rfl rfl (Nat.le_of_ble_eq_true rfl) (ct_hasPond2 ha32 hC.2.1 hK0.s (fun k hke hkl => ?_) (fun hkx => ?_))
  · refine go_if_eq (tgt := 23) dX11_measured_8 (by decide) (fun h8 => ?_) (fun h8 => ?_)
    · exact absurd h8 (by decide)
    · refine go_iload_n dX11_measured_11 rfl ?_
      refine go_bipush (v := iI (-9)) dX11_measured_12 (by decide) ?_
      refine go_icmp_lt (tgt := 23) dX11_measured_14 (by decide) (fun h14 => ?_) (fun h14 => ?_)
      · rw [iI_lt (by omega)] at h14
        refine go_iconst (v := iI (-1)) dX11_measured_23 (by decide) ?_
        refine go_iret rfl rfl dX11_measured_24 ?_
        have e1 : msrX X a b = X := by unfold msrX; rw [if_neg (by omega)]
        have e2 : msrA X a b = -1 := by unfold msrA; rw [if_neg (by omega)]
        rw [e1, e2] at hK
        exact hK σ FC.rf hC
      · rw [iI_lt (by omega)] at h14
        refine go_iload_n dX11_measured_17 rfl ?_
        refine go_bipush (v := iI 9) dX11_measured_18 (by decide) ?_
        refine go_icmp_le (tgt := 25) dX11_measured_20 (by decide) (fun h20 => ?_) (fun h20 => ?_)
        · rw [iI_le (by omega)] at h20
          subst hke
          refine go_aload_n dX11_measured_25 rfl ?_
          refine go_getR fX11_85 dX11_measured_26 rfl (hR _ _ _ rfl) ?_
          refine go_iload_n dX11_measured_29 rfl ?_
          refine go_iload_n dX11_measured_30 rfl ?_
          refine go_callV (as := [_, _]) wX11_289 dX11_measured_31 rfl rfl rfl rfl (Nat.le_of_ble_eq_true rfl) (ct_X5_add hR hC.2.2.2.2.2.2.1 hK0.m.1 (fun hl τ fs hM => ?_) (fun hl => ?_))
          · refine go_if_eq (tgt := 47) dX11_measured_34 (by decide) (fun h34 => ?_) (fun h34 => ?_)
            · exact absurd h34 (by decide)
            · refine go_aload_n dX11_measured_37 rfl ?_
              refine go_getR fX11_85 dX11_measured_38 rfl (fs.RO hR _ _ _ rfl) ?_
              refine go_getI fX11_293 dX11_measured_41 rfl ?_
              rw [hM.1]
              refine go_goto (tgt := 48) dX11_measured_44 (by decide) ?_
              refine go_iret rfl rfl dX11_measured_48 ?_
              have e1 : msrX X k b = setMs X (xm X ++ [(k, b)]) := by unfold msrX; rw [if_pos (by omega)]; rfl
              have e2 : msrA X k b = ((xm X).length : Int) + 1 := by unfold msrA; rw [if_pos (by omega)]
              rw [e1, e2] at hK
              rw [List.length_append, show (((xm X).length + [(k, b)].length : Nat) : Int) = ((xm X).length : Int) + 1 by simp]
              exact hK τ (FC.ofS fs (by decide)) (CI_ms hC hK0 fs hM)
          · refine go_if_eq (tgt := 47) dX11_measured_34 (by decide) (fun h34 => ?_) (fun h34 => ?_)
            · refine go_iconst (v := iI (-1)) dX11_measured_47 (by decide) ?_
              refine go_iret rfl rfl dX11_measured_48 ?_
              have e1 : msrX X k b = X := by unfold msrX; rw [if_neg (by omega)]
              have e2 : msrA X k b = -1 := by unfold msrA; rw [if_neg (by omega)]
              rw [e1, e2] at hK
              exact hK σ FC.rf hC
            · exact absurd h34 (by decide)
        · rw [iI_le (by omega)] at h20
          refine go_iconst (v := iI (-1)) dX11_measured_23 (by decide) ?_
          refine go_iret rfl rfl dX11_measured_24 ?_
          have e1 : msrX X a b = X := by unfold msrX; rw [if_neg (by omega)]
          have e2 : msrA X a b = -1 := by unfold msrA; rw [if_neg (by omega)]
          rw [e1, e2] at hK
          exact hK σ FC.rf hC
  · refine go_if_eq (tgt := 23) dX11_measured_8 (by decide) (fun h8 => ?_) (fun h8 => ?_)
    · refine go_iconst (v := iI (-1)) dX11_measured_23 (by decide) ?_
      refine go_iret rfl rfl dX11_measured_24 ?_
      have e1 : msrX X a b = X := by unfold msrX; rw [if_neg (by omega)]
      have e2 : msrA X a b = -1 := by unfold msrA; rw [if_neg (by omega)]
      rw [e1, e2] at hK
      exact hK σ FC.rf hC
    · exact absurd h8 (by decide)

