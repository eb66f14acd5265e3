/-! the class: text -/
def tnX (X : XS) (s : PS) : XS := ([], s, begW s, xl X, [], none, [], xL X, xh X, xp X, xo X, xk X)
def lwX (X : XS) (L : List CL) : XS := ([], xs X, xw X, xl X, xa X, xi X, xm X, xL X ++ [(xt X, L)], xh X, xp X, xo X, xk X)
def plX (X : XS) (L : List ST) : XS := ([], xs X, xw X, xl X, xa X, xi X, xm X, xL X, xh X, xp X ++ [L], xo X, xk X)
def tn2 (X : XS) (r : Option PS) : XS × Int := match r with
  | some s => (tnX X s, (nP s : Int))
  | none => (X, -1)
def lw2 (X : XS) (r : Option (List CL)) : XS × Int := match r with
  | some L => if (xL X).length < 4 then (lwX X L, ((xL X).length : Int)) else (X, -1)
  | none => (X, -1)
def pl2 (X : XS) (r : Option (List ST)) : XS × Int := match r with
  | some L => if (xp X).length < 4 then (plX X L, ((xp X).length : Int)) else (X, -1)
  | none => (X, -1)
def txt2 (X : XS) (a : Int) : XS × Int := if a = 0 then tn2 X (twS (xt X) 242 0 ps0).2 else if a = 1 then lw2 X (lwS (xt X) 242 0 []).2 else if a = 2 then pl2 X (plS (xt X) 17 0 []).2 else (X, -1)
theorem txt_0 {X : XS} : txt2 X 0 = tn2 X (twS (xt X) 242 0 ps0).2 := if_pos rfl
theorem txt_1 {X : XS} : txt2 X 1 = lw2 X (lwS (xt X) 242 0 []).2 := by unfold txt2; rw [if_neg (by decide), if_pos rfl]
theorem txt_2 {X : XS} : txt2 X 2 = pl2 X (plS (xt X) 17 0 []).2 := by unfold txt2; rw [if_neg (by decide), if_neg (by decide), if_pos rfl]
theorem txt_n {X : XS} {a : Int} (h : ¬ (0 ≤ a ∧ a ≤ 2)) : txt2 X a = (X, -1) := by unfold txt2; rw [if_neg (by omega), if_neg (by omega), if_neg (by omega)]
theorem lw2_f {X : XS} {r : Option (List CL)} (h : ¬ (xL X).length < 4) : lw2 X r = (X, -1) := by
  unfold lw2
  cases r with
  | none => rfl
  | some L => dsimp only; rw [if_neg h]
theorem pl2_f {X : XS} {r : Option (List ST)} (h : ¬ (xp X).length < 4) : pl2 X r = (X, -1) := by
  unfold pl2
  cases r with
  | none => rfl
  | some L => dsimp only; rw [if_neg h]
theorem lw2_y {X : XS} {L : List CL} (h : (xL X).length < 4) : lw2 X (some L) = (lwX X L, ((xL X).length : Int)) := if_pos h
theorem pl2_y {X : XS} {L : List ST} (h : (xp X).length < 4) : pl2 X (some L) = (plX X L, ((xp X).length : Int)) := if_pos h
theorem twS_wh {t : List Nat} : ∀ (n a : Nat) (s : PS) (q : Nat) (s' : PS), twS t n a s = (q, some s') → whB s' = true
  | 0, a, s, q, s', h => by unfold twS at h; cases h
  | n + 1, a, s, q, s', h => by
    cases e : clS t a s with
    | mk q1 p =>
      obtain ⟨b, s1⟩ := p
      cases b with
      | false => rw [twS_f e] at h; cases h
      | true =>
        by_cases h1 : ch t q1 = -1
        · rw [twS_e e h1] at h
          by_cases hw : whB s1 = true
          · rw [if_pos hw] at h
            have := Option.some.inj (Prod.mk.inj h).2
            rw [← this]; exact hw
          · rw [if_neg hw] at h; cases h
        · by_cases h2 : ch t q1 = 59
          · rw [twS_n e h2] at h; exact twS_wh n _ _ _ _ h
          · rw [twS_x e h1 h2] at h; cases h
theorem loK1 : loK 1 0 = 0 ∧ loK 1 1 = 1 ∧ loK 1 2 = 0 ∧ loK 1 3 = 0 ∧ loK 1 4 = 0 ∧ loK 1 5 = 0 ∧ loK 1 6 = 0 ∧ loK 1 7 = 0 ∧ loK 1 8 = 0 := by decide
theorem hiK1 : hiK 1 0 = 99 ∧ hiK 1 1 = 99 ∧ hiK 1 2 = 9 ∧ hiK 1 3 = 99 ∧ hiK 1 4 = 9 ∧ hiK 1 5 = 99 ∧ hiK 1 6 = 99 ∧ hiK 1 7 = 99 ∧ hiK 1 8 = 9 := by decide
theorem loK2 : loK 2 0 = 0 ∧ loK 2 1 = 0 ∧ loK 2 2 = 1 ∧ loK 2 3 = 0 ∧ loK 2 4 = 0 := by decide
theorem hiK2 : hiK 2 0 = 6 ∧ hiK 2 1 = 6 ∧ hiK 2 2 = 9 ∧ hiK 2 3 = 99 ∧ hiK 2 4 = 1 := by decide
theorem TwK_of {s : PS} (hp : POK s) (hg : PRG s) (hw : whB s = true) : TwK s := by
  unfold whB at hw
  rw [Bool.and_eq_true, Bool.and_eq_true] at hw
  obtain ⟨⟨a1, a2⟩, a3⟩ := hw
  unfold w1 at a2
  unfold w2 at a3
  rw [List.all_eq_true] at a2 a3
  refine ⟨hp.2.1, hp.2.2.1, hg.1, fun i hi => ?_, fun k hk => ?_⟩
  · have hi : i < s.2.1 := hi
    have b1 := of_decide_eq_true (a2 i (List.mem_range.mpr hi))
    have g := fun j hj => hg.2.1 i j hi hj
    have g0 := g 0 (by decide); have g1 := g 1 (by decide); have g2 := g 2 (by decide); have g3 := g 3 (by decide); have g4 := g 4 (by decide); have g5 := g 5 (by decide); have g6 := g 6 (by decide); have g7 := g 7 (by decide); have g8 := g 8 (by decide)
    have l1 := loK1
    have h1 := hiK1
    unfold PdK pd
    omega
  · have hk : k < s.2.2.1 := hk
    have b1 := of_decide_eq_true (a3 k (List.mem_range.mpr hk))
    have g := fun j hj => hg.2.2 k j hk hj
    have g0 := g 0 (by decide); have g1 := g 1 (by decide); have g2 := g 2 (by decide); have g3 := g 3 (by decide); have g4 := g 4 (by decide)
    have l1 := loK2
    have h1 := hiK2
    unfold PpK pp nP
    omega
theorem XK_tn {X : XS} {s : PS} (h : XK X) (hS : TwK s) : XK (tnX X s) := ⟨⟨by show 0 ≤ 240; decide, fun b hb => absurd hb List.not_mem_nil⟩, hS, begW_ok hS, by show 0 ≤ 9999; decide, ⟨by show 0 ≤ 40; decide, trivial, fun b hb => absurd hb List.not_mem_nil⟩, fun a l e => (by cases e), ⟨by show 0 ≤ 10; decide, fun b hb => absurd hb List.not_mem_nil⟩, h.L, h.p, h.o, h.k⟩
theorem XK_lw {X : XS} {L : List CL} {q : Nat} (h : XK X) (hl : (xL X).length < 4) (e : lwS (xt X) 242 0 [] = (q, some L)) (hc : (codeL L).length ≤ 240) : XK (lwX X L) := by
  refine ⟨⟨by show 0 ≤ 240; decide, fun b hb => absurd hb List.not_mem_nil⟩, h.s, h.w, h.d, h.a, h.i, h.m, ⟨?_, h.L.2.1, ?_, fun x hx => ?_⟩, h.p, h.o, h.k⟩
  · show (xL X ++ [(xt X, L)]).length ≤ 4
    rw [List.length_append]; exact hl
  · show xh X < ((xL X ++ [(xt X, L)]).length : Int)
    rw [List.length_append]
    have := h.L.2.2.1
    show xh X < (((xL X).length + 1 : Nat) : Int)
    omega
  · rcases List.mem_append.mp (show x ∈ xL X ++ [(xt X, L)] from hx) with h1 | h1
    · exact h.L.2.2.2 x h1
    · have e1 : x = (xt X, L) := by simpa using h1
      rw [e1]
      exact ⟨h.t, ⟨q, e⟩, hc, lwS_ex 242 0 [] q L (fun c hc => absurd hc List.not_mem_nil) e⟩
theorem XK_pl {X : XS} {L : List ST} (h : XK X) (hl : (xp X).length < 4) (hL : LOK L) : XK (plX X L) := by
  refine ⟨⟨by show 0 ≤ 240; decide, fun b hb => absurd hb List.not_mem_nil⟩, h.s, h.w, h.d, h.a, h.i, h.m, h.L, ⟨?_, fun x hx => ?_⟩, h.o, h.k⟩
  · show (xp X ++ [L]).length ≤ 4
    rw [List.length_append]; exact hl
  · rcases List.mem_append.mp (show x ∈ xp X ++ [L] from hx) with h1 | h1
    · exact h.p.2 x h1
    · have e1 : x = L := by simpa using h1
      rw [e1]; exact hL
theorem CI_lw {σ τ : AS} {X : XS} {L : List CL} {n : Nat} (hC : CI σ X) (hK : XK X) (hn : (xL X).length = n) (h4 : n < 4) (e : ∀ k, uC k → k ≠ 48 → k ≠ 50 + 4 * n → k ≠ 51 + 4 * n → τ.1 k = σ.1 k) (h1 : τ.1 1 1 = iI 0) (h2 : τ.1 48 1 = iI ((n : Int) + 1)) (h3 : τ.1 48 2 = σ.1 48 2) (hw : LwC τ (50 + 4 * n) (codeL L)) : CI τ (lwX X L) := by
  obtain ⟨c1, c2, c3, c4, c5, c6, c7, c8, c9, c10, c11⟩ := hC
  have e0 : ∀ k, uC k → k < 48 ∨ 65 < k → τ.1 k = σ.1 k := fun k h h2 => e k h (by omega) (by omega) (by omega)
  refine ⟨⟨h1, fun i b hb => by simp [lwX, xt] at hb⟩, TwC_fr c2 hK.s.1 hK.s.2.1 (fun k a b => e0 k (by unfold uC; omega) (by omega)), WC_fr c3 (fun k a b => e0 k (by unfold uC; omega) (by omega)), ?_, AcC_fr c5 (e0 _ (by unfold uC; omega) (by omega)) (e0 _ (by unfold uC; omega) (by omega)), ImC_fr c6 (by rw [e0 0 (by unfold uC; omega) (by omega)]) (fun k a b => e0 k (by unfold uC; omega) (by omega)), MsC_fr c7 (fun k a b => e0 k (by unfold uC; omega) (by omega)), ⟨?_, by rw [h3]; exact c8.2.1, fun k x hx => ?_⟩, PsC_fr c9 hK.p.1 (by rw [e0 0 (by unfold uC; omega) (by omega)]) (fun k a b => e0 k (by unfold uC; omega) (by omega)), by rw [e0 0 (by unfold uC; omega) (by omega)]; exact c10, by rw [e0 0 (by unfold uC; omega) (by omega)]; exact c11⟩
  · unfold ChC; rw [e0 91 (by unfold uC; omega) (by omega), e0 92 (by unfold uC; omega) (by omega)]; exact c4
  · show τ.1 48 1 = iI ((xL X ++ [(xt X, L)]).length : Nat)
    rw [h2, List.length_append, hn]; rfl
  · have hx : (xL X ++ [(xt X, L)])[k]? = some x := hx
    by_cases c : k < n
    · rw [List.getElem?_append_left (by omega)] at hx
      have := c8.2.2 k x hx
      unfold LwC
      rw [e (50 + 4 * k) (by unfold uC; omega) (by omega) (by omega) (by omega), e (50 + 4 * k + 1) (by unfold uC; omega) (by omega) (by omega) (by omega)]
      exact this
    · have hkl := (List.getElem?_eq_some_iff.mp hx).1
      rw [List.length_append, hn] at hkl
      have hk : k = n := by simp only [List.length_cons, List.length_nil] at hkl; omega
      subst hk
      rw [List.getElem?_append_right (by omega), hn, Nat.sub_self] at hx
      have e1 : (xt X, L) = x := by simpa using hx
      rw [← e1]
      exact hw
theorem CI_pl {σ τ : AS} {X : XS} {L : List ST} {n : Nat} (hC : CI σ X) (hK : XK X) (hn : (xp X).length = n) (h4 : n < 4) (e : ∀ k, uC k → k ≠ 0 → k < 67 + 4 * n ∨ 70 + 4 * n < k → τ.1 k = σ.1 k) (h0 : ∀ j, j ≠ 7 → τ.1 0 j = σ.1 0 j) (h1 : τ.1 1 1 = iI 0) (h2 : τ.1 0 7 = iI ((n : Int) + 1)) (hw : PLC τ (67 + 4 * n) L) : CI τ (plX X L) := by
  obtain ⟨c1, c2, c3, c4, c5, c6, c7, c8, c9, c10, c11⟩ := hC
  have e0 : ∀ k, uC k → k ≠ 0 → k < 67 ∨ 82 < k → τ.1 k = σ.1 k := fun k h h2 h3 => e k h h2 (by omega)
  refine ⟨⟨h1, fun i b hb => by simp [plX, xt] at hb⟩, TwC_fr c2 hK.s.1 hK.s.2.1 (fun k a b => e0 k (by unfold uC; omega) (by omega) (by omega)), WC_fr c3 (fun k a b => e0 k (by unfold uC; omega) (by omega) (by omega)), ?_, AcC_fr c5 (e0 _ (by unfold uC; omega) (by omega) (by omega)) (e0 _ (by unfold uC; omega) (by omega) (by omega)), ImC_fr c6 (h0 13 (by decide)) (fun k a b => e0 k (by unfold uC; omega) (by omega) (by omega)), MsC_fr c7 (fun k a b => e0 k (by unfold uC; omega) (by omega) (by omega)), LsC_fr c8 hK.L.1 (fun k a => e0 k (by unfold uC; omega) (by omega) (by omega)), ⟨?_, fun k x hx => ?_⟩, by rw [h0 16 (by decide)]; exact c10, by rw [h0 17 (by decide)]; exact c11⟩
  · unfold ChC; rw [e0 91 (by unfold uC; omega) (by omega) (by omega), e0 92 (by unfold uC; omega) (by omega) (by omega)]; exact c4
  · show τ.1 0 7 = iI ((xp X ++ [L]).length : Nat)
    rw [h2, List.length_append, hn]; rfl
  · have hx : (xp X ++ [L])[k]? = some x := hx
    by_cases c : k < n
    · rw [List.getElem?_append_left (by omega)] at hx
      exact PLC_fr (c9.2 k x hx) (fun j h1 h2 => e j (by unfold uC; omega) (by omega) (by omega))
    · have hkl := (List.getElem?_eq_some_iff.mp hx).1
      rw [List.length_append, hn] at hkl
      have hk : k = n := by simp only [List.length_cons, List.length_nil] at hkl; omega
      subst hk
      rw [List.getElem?_append_right (by omega), hn, Nat.sub_self] at hx
      have e1 : L = x := by simpa using hx
      rw [← e1]
      exact hw
theorem ct_X3_become {l : Launch} {D : va_G} {cA ad : Nat → Nat} {d : Nat} {σ : AS} {K : Option Value → AS → Prop} {b : Nat} {cd : List Int} (hR : RO σ) (hb : LB b) (hb45 : 45 < b) (hl : LawC σ cd) (hcd : cd.length ≤ 240) (hK : ∀ τ, FrS [b, b + 1] σ τ → LwC τ b cd → K none τ) : Call l D cA ad (d + 1) mX3_become [.ref b, .ref 44] σ K := by
  refine call_go (by decide) (Nat.le_of_ble_eq_true rfl) (show Go l D cA ad (d + 1) mX3_become 0 [.ref b, .ref 44] [] σ K from ?_)
  refine go_aload_n dX3_become_0 rfl ?_
  refine go_getR fX3_9 dX3_become_1 rfl (hR _ _ _ rfl) ?_
  refine go_iconst (v := iI 0) dX3_become_4 (by decide) ?_
  refine go_aload_n dX3_become_5 rfl ?_
  refine go_getR fX3_9 dX3_become_6 hb.1 (hR _ _ _ hb.2.2.2.2.1) ?_
  refine go_iconst (v := iI 0) dX3_become_9 (by decide) ?_
  refine go_aload_n dX3_become_10 rfl ?_
  refine go_getR fX3_9 dX3_become_11 hb.1 (hR _ _ _ hb.2.2.2.2.1) ?_
  refine go_alen1 dX3_become_14 hb.2.1 ?_
  rw [show Int32.ofNat 240 = iI ((240 : Nat) : Int) from rfl]
  refine go_cpyN (sp := 0) (dp := 0) (n := 240) rfl hb.2.1 wX3_29 dX3_become_15 (by decide) (by decide) (by decide) (Nat.le_of_ble_eq_true rfl) (fun x hx hxn => ?_)
  refine go_aload_n dX3_become_18 rfl ?_
  refine go_aload_n dX3_become_19 rfl ?_
  refine go_getI fX3_35 dX3_become_20 rfl ?_
  rw [sI_ne _ _ _ _ (by omega), hl.1]
  refine go_putI fX3_35 rfl dX3_become_23 hb.1 rfl rfl ?_
  refine go_vret rfl dX3_become_26 ?_
  refine hK _ ((FrS.rf.sI (by simp)).sI (by simp)) ⟨by rw [sI_same, upd_same], fun i y hy => ?_⟩
  have hi := (List.getElem?_eq_some_iff.mp hy).1
  rw [sI_ne _ _ _ _ (by omega), sI_same]
  have h9 := hx i (by omega)
  rw [Nat.zero_add] at h9
  rw [h9]
  exact hl.2 i y hy

theorem ct_X11_keepLaw {l : Launch} {D : va_G} {cA ad : Nat → Nat} {d : Nat} {σ : AS} {K : Option Value → AS → Prop} {X : XS} (hR : RO σ) (hK0 : XK X) (hC : CI σ X) (hK : ∀ τ, FC σ τ → CI τ (txt2 X 1).1 → XK (txt2 X 1).1 → K (some (.int (iI (txt2 X 1).2))) τ) : Call l D cA ad (d + 37) mX11_keepLaw [.ref 0] σ K := by
  have h4 := hK0.L.1
  refine call_go (by decide) (Nat.le_of_ble_eq_true rfl) (show Go l D cA ad (d + 37) mX11_keepLaw 0 [.ref 0] [] σ K from ?_)
  refine go_aload_n dX11_keepLaw_0 rfl ?_
  refine go_getR fX11_40 dX11_keepLaw_1 rfl (hR _ _ _ rfl) ?_
  refine go_getI fX11_175 dX11_keepLaw_4 rfl ?_
  refine go_iconst (v := iI 4) dX11_keepLaw_7 (by decide) ?_
  refine go_icmp_ge (tgt := 21) dX11_keepLaw_8 (by decide) (fun h8 => ?_) (fun h8 => ?_)
  · rw [hC.2.2.2.2.2.2.2.1.1, iI_le (by omega)] at h8
    refine go_iconst (v := iI (-1)) dX11_keepLaw_21 (by decide) ?_
    refine go_iret rfl rfl dX11_keepLaw_22 ?_
    rw [txt_1, lw2_f (by omega)] at hK
    exact hK σ FC.rf hC hK0
  · rw [hC.2.2.2.2.2.2.2.1.1, iI_le (by omega)] at h8
    refine go_aload_n dX11_keepLaw_11 rfl ?_
    refine go_getR fX11_31 dX11_keepLaw_12 rfl (hR _ _ _ rfl) ?_
    refine go_callV (as := []) wX11_117 dX11_keepLaw_15 rfl rfl rfl rfl (Nat.le_of_ble_eq_true rfl) (ct_X4_readLaw hK0.t hR hC.1 (fun q τ fr e => ?_) (fun q L τ fr e hl hn => ?_))
    · refine go_if_ne (tgt := 23) dX11_keepLaw_18 (by decide) (fun h18 => ?_) (fun h18 => ?_)
      · exact absurd h18 (by decide)
      · refine go_iconst (v := iI (-1)) dX11_keepLaw_21 (by decide) ?_
        refine go_iret rfl rfl dX11_keepLaw_22 ?_
        rw [txt_1, e] at hK
        exact hK _ (QF.g fr).at.fc (hC.q hK0 (QF.g fr).at) hK0
    · have hq := (QF.g fr).at (a := q)
      have hR2 := hq.RO hR
      have hC2 := hC.q hK0 hq
      have hl2 : LawC (atc τ q) (codeL L) := ⟨by rw [atc_ne _ _ _ (by decide)]; exact hl.1, fun i x hx => by rw [atc_ne _ _ _ (by decide)]; exact hl.2 i x hx⟩
      generalize atc τ q = ψ at hq hR2 hC2 hl2 ⊢
      generalize hnn : (xL X).length = n at h8
      have hLB := LB_ok n (by omega)
      refine go_if_ne (tgt := 23) dX11_keepLaw_18 (by decide) (fun h18 => ?_) (fun h18 => ?_)
      · refine go_aload_n dX11_keepLaw_23 rfl ?_
        refine go_getR fX11_40 dX11_keepLaw_24 rfl (hR2 _ _ _ rfl) ?_
        refine go_getR fX11_378 dX11_keepLaw_27 rfl (hR2 _ _ _ rfl) ?_
        refine go_aload_n dX11_keepLaw_30 rfl ?_
        refine go_getR fX11_40 dX11_keepLaw_31 rfl (hR2 _ _ _ rfl) ?_
        refine go_getI fX11_175 dX11_keepLaw_34 rfl ?_
        rw [hC2.2.2.2.2.2.2.2.1.1, hnn]
        refine go_aald dX11_keepLaw_37 rfl (by decide) (vp_iI (by omega)) (by rw [cl_n _ (by omega)]; exact hR2 _ _ _ (r49 n (by omega))) ?_
        refine go_aload_n dX11_keepLaw_38 rfl ?_
        refine go_getR fX11_31 dX11_keepLaw_39 rfl (hR2 _ _ _ rfl) ?_
        refine go_getR fX11_382 dX11_keepLaw_42 rfl (hR2 _ _ _ rfl) ?_
        refine go_callV (as := [_]) wX11_386 dX11_keepLaw_45 hLB.1 rfl rfl rfl (Nat.le_of_ble_eq_true rfl) (ct_X3_become (b := 50 + 4 * n) hR2 hLB (by omega) hl2 hn (fun ρ fs hw => ?_))
        have hR3 := fs.RO hR2
        have e48 : ρ.1 48 = ψ.1 48 := fs.2 48 (by simp only [List.mem_cons, List.not_mem_nil, or_false]; omega)
        refine go_aload_n dX11_keepLaw_48 rfl ?_
        refine go_getR fX11_40 dX11_keepLaw_49 rfl (hR3 _ _ _ rfl) ?_
        refine go_dup dX11_keepLaw_52 rfl ?_
        refine go_getI fX11_175 dX11_keepLaw_53 rfl ?_
        rw [e48, hC2.2.2.2.2.2.2.2.1.1, hnn]
        refine go_iconst (v := iI 1) dX11_keepLaw_56 (by decide) ?_
        refine go_iadd dX11_keepLaw_57 ?_
        rw [iI_add]
        refine go_putI fX11_175 rfl dX11_keepLaw_58 rfl rfl rfl ?_
        refine go_aload_n dX11_keepLaw_61 rfl ?_
        refine go_getR fX11_10 dX11_keepLaw_62 rfl (hR3 _ _ _ rfl) ?_
        refine go_iconst (v := iI 0) dX11_keepLaw_65 (by decide) ?_
        refine go_putI fX11_106 rfl dX11_keepLaw_66 rfl rfl rfl ?_
        refine go_aload_n dX11_keepLaw_69 rfl ?_
        refine go_getR fX11_40 dX11_keepLaw_70 rfl (hR3 _ _ _ rfl) ?_
        refine go_getI fX11_175 dX11_keepLaw_73 rfl ?_
        rw [sI_ne _ _ _ _ (by decide), sI_same, upd_same]
        refine go_iconst (v := iI 1) dX11_keepLaw_76 (by decide) ?_
        refine go_isub dX11_keepLaw_77 ?_
        rw [iI_sub, show (n : Int) + 1 - 1 = n by omega]
        refine go_iret rfl rfl dX11_keepLaw_78 ?_
        rw [txt_1, e, lw2_y (by omega), hnn] at hK
        refine hK _ (((hq.fc.tr (FC.ofS fs (by simp only [List.mem_cons, List.not_mem_nil, or_false]; omega))).sI (by decide)).sI (by decide)) ?_ (XK_lw hK0 (by omega) e hn)
        refine CI_lw hC hK0 hnn (by omega) (fun k hk h1 h2 h3 => ?_) (by rw [sI_same, upd_same]) (by rw [sI_ne _ _ _ _ (by decide), sI_same, upd_same]) ?_ ?_
        · rw [sI_ne _ _ _ _ (by unfold uC at hk; omega), sI_ne _ _ _ _ h1, fs.2 k (by simp only [List.mem_cons, List.not_mem_nil, or_false]; omega)]; exact hq.2.2.1 k hk
        · rw [sI_ne _ _ _ _ (by decide), sI_same, upd_ne _ _ _ _ (by decide), e48]; rw [hq.2.2.1 48 (by unfold uC; omega)]
        · unfold LwC
          rw [sI_ne _ _ _ _ (by omega), sI_ne _ _ _ _ (by omega), sI_ne _ _ _ _ (by omega), sI_ne _ _ _ _ (by omega)]
          exact hw
      · exact absurd h18 (by decide)

theorem ct_X7_become {l : Launch} {D : va_G} {cA ad : Nat → Nat} {d : Nat} {σ : AS} {K : Option Value → AS → Prop} {b : Nat} {L : List ST} (hR : RO σ) (hb : PB b) (hl : PLC σ 83 L) (h16 : L.length ≤ 16) (hK : ∀ τ, FrS [b, b + 1, b + 2, b + 3] σ τ → PLC τ b L → K none τ) : Call l D cA ad (d + 1) mX7_become [.ref b, .ref 83] σ K := by
  have hb79 := hb.2.2.2.2.2.2.2
  refine call_go (by decide) (Nat.le_of_ble_eq_true rfl) (show Go l D cA ad (d + 1) mX7_become 0 [.ref b, .ref 83] [] σ K from ?_)
  refine go_aload_n dX7_become_0 rfl ?_
  refine go_getR fX7_9 dX7_become_1 rfl (hR _ _ _ rfl) ?_
  refine go_iconst (v := iI 0) dX7_become_4 (by decide) ?_
  refine go_aload_n dX7_become_5 rfl ?_
  refine go_getR fX7_9 dX7_become_6 hb.1 (hR _ _ _ hb.2.2.2.2.1) ?_
  refine go_iconst (v := iI 0) dX7_become_9 (by decide) ?_
  refine go_bipush (v := iI 16) dX7_become_10 (by decide) ?_
  refine go_cpyN (sp := 0) (dp := 0) (n := 16) rfl hb.2.1 wX7_21 dX7_become_12 (by decide) (by decide) (by decide) (Nat.le_of_ble_eq_true rfl) (fun x hx hxn => ?_)
  refine go_aload_n dX7_become_15 rfl ?_
  refine go_getR fX7_15 dX7_become_16 rfl (hR _ _ _ rfl) ?_
  refine go_iconst (v := iI 0) dX7_become_19 (by decide) ?_
  refine go_aload_n dX7_become_20 rfl ?_
  refine go_getR fX7_15 dX7_become_21 hb.1 (hR _ _ _ hb.2.2.2.2.2.1) ?_
  refine go_iconst (v := iI 0) dX7_become_24 (by decide) ?_
  refine go_bipush (v := iI 16) dX7_become_25 (by decide) ?_
  refine go_cpyN (sp := 0) (dp := 0) (n := 16) rfl hb.2.2.1 wX7_21 dX7_become_27 (by decide) (by decide) (by decide) (Nat.le_of_ble_eq_true rfl) (fun y hy hyn => ?_)
  refine go_aload_n dX7_become_30 rfl ?_
  refine go_getR fX7_18 dX7_become_31 rfl (hR _ _ _ rfl) ?_
  refine go_iconst (v := iI 0) dX7_become_34 (by decide) ?_
  refine go_aload_n dX7_become_35 rfl ?_
  refine go_getR fX7_18 dX7_become_36 hb.1 (hR _ _ _ hb.2.2.2.2.2.2.1) ?_
  refine go_iconst (v := iI 0) dX7_become_39 (by decide) ?_
  refine go_bipush (v := iI 16) dX7_become_40 (by decide) ?_
  refine go_cpyN (sp := 0) (dp := 0) (n := 16) rfl hb.2.2.2.1 wX7_21 dX7_become_42 (by decide) (by decide) (by decide) (Nat.le_of_ble_eq_true rfl) (fun z hz hzn => ?_)
  refine go_aload_n dX7_become_45 rfl ?_
  refine go_aload_n dX7_become_46 rfl ?_
  refine go_getI fX7_27 dX7_become_47 rfl ?_
  rw [sI_ne _ _ _ _ (by omega), sI_ne _ _ _ _ (by omega), sI_ne _ _ _ _ (by omega), hl.1]
  refine go_putI fX7_27 rfl dX7_become_50 hb.1 rfl rfl ?_
  refine go_vret rfl dX7_become_53 ?_
  refine hK _ ((((FrS.rf.sI (by simp)).sI (by simp)).sI (by simp)).sI (by simp)) ⟨by rw [sI_same, upd_same], fun i w hw => ?_⟩
  have hi := (List.getElem?_eq_some_iff.mp hw).1
  have h1 := hx i (by omega)
  have h2 := hy i (by omega)
  have h3 := hz i (by omega)
  rw [Nat.zero_add] at h1 h2 h3
  rw [sI_ne _ _ _ _ (by omega)] at h2
  rw [sI_ne _ _ _ _ (by omega), sI_ne _ _ _ _ (by omega)] at h3
  have hh := hl.2 i w hw
  rw [sI_ne _ b (b + 1) _ (by omega), sI_ne _ (b + 3) (b + 1) _ (by omega), sI_ne _ (b + 2) (b + 1) _ (by omega), sI_same, sI_ne _ b (b + 2) _ (by omega), sI_ne _ (b + 3) (b + 2) _ (by omega), sI_same, sI_ne _ b (b + 3) _ (by omega), sI_same, h1, h2, h3]
  exact hh

theorem ct_X11_keepPlan {l : Launch} {D : va_G} {cA ad : Nat → Nat} {d : Nat} {σ : AS} {K : Option Value → AS → Prop} {X : XS} (hR : RO σ) (hK0 : XK X) (hC : CI σ X) (hK : ∀ τ, FC σ τ → CI τ (txt2 X 2).1 → XK (txt2 X 2).1 → K (some (.int (iI (txt2 X 2).2))) τ) : Call l D cA ad (d + 6) mX11_keepPlan [.ref 0] σ K := by
  have h4 := hK0.p.1
  refine call_go (by decide) (Nat.le_of_ble_eq_true rfl) (show Go l D cA ad (d + 6) mX11_keepPlan 0 [.ref 0] [] σ K from ?_)
  refine go_aload_n dX11_keepPlan_0 rfl ?_
  refine go_getI fX11_359 dX11_keepPlan_1 rfl ?_
  refine go_iconst (v := iI 4) dX11_keepPlan_4 (by decide) ?_
  refine go_icmp_ge (tgt := 22) dX11_keepPlan_5 (by decide) (fun h5 => ?_) (fun h5 => ?_)
  · rw [hC.2.2.2.2.2.2.2.2.1.1, iI_le (by omega)] at h5
    refine go_iconst (v := iI (-1)) dX11_keepPlan_22 (by decide) ?_
    refine go_iret rfl rfl dX11_keepPlan_23 ?_
    rw [txt_2, pl2_f (by omega)] at hK
    exact hK σ FC.rf hC hK0
  · rw [hC.2.2.2.2.2.2.2.2.1.1, iI_le (by omega)] at h5
    refine go_aload_n dX11_keepPlan_8 rfl ?_
    refine go_getR fX11_51 dX11_keepPlan_9 rfl (hR _ _ _ rfl) ?_
    refine go_aload_n dX11_keepPlan_12 rfl ?_
    refine go_getR fX11_10 dX11_keepPlan_13 rfl (hR _ _ _ rfl) ?_
    refine go_callV (as := [_]) wX11_121 dX11_keepPlan_16 rfl rfl rfl rfl (Nat.le_of_ble_eq_true rfl) (ct_X7_readFrom hK0.t hR hC.1 (fun q τ fr e => ?_) (fun q L τ fr e hl hn => ?_))
    · refine go_if_ne (tgt := 24) dX11_keepPlan_19 (by decide) (fun h19 => ?_) (fun h19 => ?_)
      · exact absurd h19 (by decide)
      · refine go_iconst (v := iI (-1)) dX11_keepPlan_22 (by decide) ?_
        refine go_iret rfl rfl dX11_keepPlan_23 ?_
        rw [txt_2, e] at hK
        exact hK _ (QF.p fr).at.fc (hC.q hK0 (QF.p fr).at) hK0
    · have hq := (QF.p fr).at (a := q)
      have hR2 := hq.RO hR
      have hC2 := hC.q hK0 hq
      have hl2 : PLC (atc τ q) 83 L := PLC_fr hl (fun k h1 h2 => atc_ne _ _ _ (by omega))
      generalize atc τ q = ψ at hq hR2 hC2 hl2 ⊢
      generalize hnn : (xp X).length = n at h5
      obtain ⟨hPB, hp66⟩ := PB_k n (by omega)
      refine go_if_ne (tgt := 24) dX11_keepPlan_19 (by decide) (fun h19 => ?_) (fun h19 => ?_)
      · refine go_aload_n dX11_keepPlan_24 rfl ?_
        refine go_getR fX11_46 dX11_keepPlan_25 rfl (hR2 _ _ _ rfl) ?_
        refine go_aload_n dX11_keepPlan_28 rfl ?_
        refine go_getI fX11_359 dX11_keepPlan_29 rfl ?_
        rw [hC2.2.2.2.2.2.2.2.2.1.1, hnn]
        refine go_aald dX11_keepPlan_32 rfl (by decide) (vp_iI (by omega)) (by rw [cl_n _ (by omega)]; exact hR2 _ _ _ hp66) ?_
        refine go_aload_n dX11_keepPlan_33 rfl ?_
        refine go_getR fX11_51 dX11_keepPlan_34 rfl (hR2 _ _ _ rfl) ?_
        refine go_callV (as := [_]) wX11_391 dX11_keepPlan_37 hPB.1 rfl rfl rfl (Nat.le_of_ble_eq_true rfl) (ct_X7_become (b := 67 + 4 * n) hR2 hPB hl2 hn.1 (fun ρ fs hw => ?_))
        have hR3 := fs.RO hR2
        have e0 : ρ.1 0 = ψ.1 0 := fs.2 0 (by simp only [List.mem_cons, List.not_mem_nil, or_false]; omega)
        refine go_aload_n dX11_keepPlan_40 rfl ?_
        refine go_dup dX11_keepPlan_41 rfl ?_
        refine go_getI fX11_359 dX11_keepPlan_42 rfl ?_
        rw [e0, hC2.2.2.2.2.2.2.2.2.1.1, hnn]
        refine go_iconst (v := iI 1) dX11_keepPlan_45 (by decide) ?_
        refine go_iadd dX11_keepPlan_46 ?_
        rw [iI_add]
        refine go_putI fX11_359 rfl dX11_keepPlan_47 rfl rfl rfl ?_
        refine go_aload_n dX11_keepPlan_50 rfl ?_
        refine go_getR fX11_10 dX11_keepPlan_51 rfl (hR3 _ _ _ rfl) ?_
        refine go_iconst (v := iI 0) dX11_keepPlan_54 (by decide) ?_
        refine go_putI fX11_106 rfl dX11_keepPlan_55 rfl rfl rfl ?_
        refine go_aload_n dX11_keepPlan_58 rfl ?_
        refine go_getI fX11_359 dX11_keepPlan_59 rfl ?_
        rw [sI_ne _ _ _ _ (by decide), sI_same, upd_same]
        refine go_iconst (v := iI 1) dX11_keepPlan_62 (by decide) ?_
        refine go_isub dX11_keepPlan_63 ?_
        rw [iI_sub, show (n : Int) + 1 - 1 = n by omega]
        refine go_iret rfl rfl dX11_keepPlan_64 ?_
        rw [txt_2, e, pl2_y (by omega), hnn] at hK
        refine hK _ (((hq.fc.tr (FC.ofS fs (by simp only [List.mem_cons, List.not_mem_nil, or_false]; omega))).sI (by decide)).sI (by decide)) ?_ (XK_pl hK0 (by omega) hn)
        refine CI_pl hC hK0 hnn (by omega) (fun k hk h1 h2 => ?_) (fun j hj => ?_) (by rw [sI_same, upd_same]) (by rw [sI_ne _ _ _ _ (by decide), sI_same, upd_same]) ?_
        · rw [sI_ne _ _ _ _ (by unfold uC at hk; omega), sI_ne _ _ _ _ h1, fs.2 k (by simp only [List.mem_cons, List.not_mem_nil, or_false]; omega)]; exact hq.2.2.1 k hk
        · rw [sI_ne _ _ _ _ (by decide), sI_same, upd_ne _ _ _ _ hj, e0, hq.2.2.1 0 (by unfold uC; omega)]
        · refine PLC_fr hw (fun k h1 h2 => ?_)
          rw [sI_ne _ _ _ _ (by omega), sI_ne _ _ _ _ (by omega)]
      · exact absurd h19 (by decide)

theorem ct_X11_settleTown {l : Launch} {D : va_G} {cA ad : Nat → Nat} {d : Nat} {σ : AS} {K : Option Value → AS → Prop} {X : XS} (hR : RO σ) (hK0 : XK X) (hC : CI σ X) (hK : ∀ τ, FC σ τ → CI τ (txt2 X 0).1 → XK (txt2 X 0).1 → K (some (.int (iI (txt2 X 0).2))) τ) : Call l D cA ad (d + 7) mX11_settleTown [.ref 0] σ K := by
  refine call_go (by decide) (Nat.le_of_ble_eq_true rfl) (show Go l D cA ad (d + 7) mX11_settleTown 0 [.ref 0] [] σ K from ?_)
  refine go_aload_n dX11_settleTown_0 rfl ?_
  refine go_getR fX11_23 dX11_settleTown_1 rfl (hR _ _ _ rfl) ?_
  refine go_aload_n dX11_settleTown_4 rfl ?_
  refine go_getR fX11_10 dX11_settleTown_5 rfl (hR _ _ _ rfl) ?_
  refine go_callV (as := [_]) wX11_113 dX11_settleTown_8 rfl rfl rfl rfl (Nat.le_of_ble_eq_true rfl) (ct_X9_readFrom hK0.t hR hC.1 (fun q τ fr e => ?_) (fun q s τ fr e hs hp hg => ?_))
  · refine go_if_ne (tgt := 16) dX11_settleTown_11 (by decide) (fun h11 => ?_) (fun h11 => ?_)
    · exact absurd h11 (by decide)
    · refine go_iconst (v := iI (-1)) dX11_settleTown_14 (by decide) ?_
      refine go_iret rfl rfl dX11_settleTown_15 ?_
      rw [txt_0, e] at hK
      exact hK _ (QF.t fr).at.fc (hC.q hK0 (QF.t fr).at) hK0
  · have hq := (QF.t fr).at (a := q)
    have hR2 := hq.RO hR
    have hC2 := hC.q hK0 hq
    have hs2 := PSC_atc (a := q) hs
    have hS := TwK_of hp hg (twS_wh _ _ _ _ _ e)
    generalize atc τ q = ψ at hq hR2 hC2 hs2 ⊢
    refine go_if_ne (tgt := 16) dX11_settleTown_11 (by decide) (fun h11 => ?_) (fun h11 => ?_)
    · refine go_aload_n dX11_settleTown_16 rfl ?_
      refine go_getR fX11_19 dX11_settleTown_17 rfl (hR2 _ _ _ rfl) ?_
      refine go_aload_n dX11_settleTown_20 rfl ?_
      refine go_getR fX11_23 dX11_settleTown_21 rfl (hR2 _ _ _ rfl) ?_
      refine go_callV (as := [_]) wX11_370 dX11_settleTown_24 rfl rfl rfl rfl (Nat.le_of_ble_eq_true rfl) (ct_X9_become hR2 hs2 hp (fun ρ f1 hT => ?_))
      have hR3 := f1.RO hR2
      refine go_aload_n dX11_settleTown_27 rfl ?_
      refine go_getR fX11_10 dX11_settleTown_28 rfl (hR3 _ _ _ rfl) ?_
      refine go_iconst (v := iI 0) dX11_settleTown_31 (by decide) ?_
      refine go_putI fX11_106 rfl dX11_settleTown_32 rfl rfl rfl ?_
      have hT3 : TwC (sI ρ 1 (upd (ρ.1 1) 1 (iI 0))) s := TwC_fr hT hS.1 hS.2.1 (fun k a b => sI_ne _ _ _ _ (by omega))
      have h11 : (sI ρ 1 (upd (ρ.1 1) 1 (iI 0))).1 1 1 = iI 0 := by rw [sI_same, upd_same]
      have e1 : ∀ k, k ≠ 1 → k < 3 ∨ 22 < k → (sI ρ 1 (upd (ρ.1 1) 1 (iI 0))).1 k = ψ.1 k := fun k h1 h2 => by rw [sI_ne _ _ _ _ h1]; exact f1.2 k h2
      have fc1 : FC σ (sI ρ 1 (upd (ρ.1 1) 1 (iI 0))) := (hq.fc.tr (FC.ofR f1 (by decide))).sI (by decide)
      have hR3 : RO (sI ρ 1 (upd (ρ.1 1) 1 (iI 0))) := hR3
      generalize sI ρ 1 (upd (ρ.1 1) 1 (iI 0)) = ω at hT3 h11 e1 fc1 hR3 ⊢
      refine go_aload_n dX11_settleTown_35 rfl ?_
      refine go_getR fX11_58 dX11_settleTown_36 rfl (hR3 _ _ _ rfl) ?_
      refine go_aload_n dX11_settleTown_39 rfl ?_
      refine go_getR fX11_19 dX11_settleTown_40 rfl (hR3 _ _ _ rfl) ?_
      refine go_callV (as := [_]) wX11_372 dX11_settleTown_43 rfl rfl rfl rfl (Nat.le_of_ble_eq_true rfl) (ct_X10_begin hR3 hS hT3 (fun φ f2 hW => ?_))
      have hR4 := f2.RO hR3
      refine go_aload_n dX11_settleTown_46 rfl ?_
      refine go_getR fX11_65 dX11_settleTown_47 rfl (hR4 _ _ _ rfl) ?_
      refine go_iconst (v := iI 0) dX11_settleTown_50 (by decide) ?_
      refine go_putI fX11_375 rfl dX11_settleTown_51 rfl rfl rfl ?_
      refine go_aload_n dX11_settleTown_54 rfl ?_
      refine go_getR fX11_72 dX11_settleTown_55 rfl (hR4 _ _ _ rfl) ?_
      refine go_callV (as := []) wX11_353 dX11_settleTown_58 rfl rfl rfl rfl (Nat.le_of_ble_eq_true rfl) (ct_X0_forget ?_)
      refine go_aload_n dX11_settleTown_61 rfl ?_
      refine go_getR fX11_85 dX11_settleTown_62 rfl (hR4 _ _ _ rfl) ?_
      refine go_iconst (v := iI 0) dX11_settleTown_65 (by decide) ?_
      refine go_putI fX11_293 rfl dX11_settleTown_66 rfl rfl rfl ?_
      refine go_aload_n dX11_settleTown_69 rfl ?_
      refine go_iconst (v := iI 0) dX11_settleTown_70 (by decide) ?_
      refine go_putI fX11_349 rfl dX11_settleTown_71 rfl rfl rfl ?_
      refine go_aload_n dX11_settleTown_74 rfl ?_
      refine go_getR fX11_19 dX11_settleTown_75 rfl (hR4 _ _ _ rfl) ?_
      refine go_getI fX11_269 dX11_settleTown_78 rfl ?_
      rw [sI_ne _ _ _ _ (by decide), sI_ne _ _ _ _ (by decide), sI_ne _ _ _ _ (by decide), sI_ne _ _ _ _ (by decide), f2.2 3 (by decide), hT3.1]
      refine go_iret rfl rfl dX11_settleTown_81 ?_
      rw [txt_0, e] at hK
      refine hK _ ((((fc1.tr (FC.ofR f2 (by decide))).sI (by decide)).sI (by decide)).sI (by decide) |>.sI (by decide)) ?_ (XK_tn hK0 hS)
      obtain ⟨c1, c2, c3, c4, c5, c6, c7, c8, c9, c10, c11⟩ := hC2
      have ea : ∀ k, k ≠ 0 → k ≠ 91 → k ≠ 93 → k ≠ 101 → (sI (sI (sI (sI φ 91 (upd (φ.1 91) 0 (iI 0))) 93 (upd ((sI φ 91 (upd (φ.1 91) 0 (iI 0))).1 93) 0 (iI 0))) 101 (upd ((sI (sI φ 91 (upd (φ.1 91) 0 (iI 0))) 93 (upd ((sI φ 91 (upd (φ.1 91) 0 (iI 0))).1 93) 0 (iI 0))).1 101) 0 (iI 0))) 0 (upd ((sI (sI (sI φ 91 (upd (φ.1 91) 0 (iI 0))) 93 (upd ((sI φ 91 (upd (φ.1 91) 0 (iI 0))).1 93) 0 (iI 0))) 101 (upd ((sI (sI φ 91 (upd (φ.1 91) 0 (iI 0))) 93 (upd ((sI φ 91 (upd (φ.1 91) 0 (iI 0))).1 93) 0 (iI 0))).1 101) 0 (iI 0))).1 0) 13 (iI 0))).1 k = φ.1 k := fun k h1 h2 h3 h4 => by rw [sI_ne _ _ _ _ h1, sI_ne _ _ _ _ h4, sI_ne _ _ _ _ h3, sI_ne _ _ _ _ h2]
      have e91 := congrFun (sI_same φ 91 (upd (φ.1 91) 0 (iI 0))) 0
      have hA : AcC φ (xa X) := AcC_fr c5 (by rw [f2.2 93 (by decide), e1 93 (by decide) (by decide)]) (by rw [f2.2 94 (by decide), e1 94 (by decide) (by decide)])
      have eb : ∀ k, 1 < k → k < 3 ∨ 22 < k → k < 87 ∨ 90 < k → k ≠ 91 → k ≠ 93 → k ≠ 101 → (sI (sI (sI (sI φ 91 (upd (φ.1 91) 0 (iI 0))) 93 (upd ((sI φ 91 (upd (φ.1 91) 0 (iI 0))).1 93) 0 (iI 0))) 101 (upd ((sI (sI φ 91 (upd (φ.1 91) 0 (iI 0))) 93 (upd ((sI φ 91 (upd (φ.1 91) 0 (iI 0))).1 93) 0 (iI 0))).1 101) 0 (iI 0))) 0 (upd ((sI (sI (sI φ 91 (upd (φ.1 91) 0 (iI 0))) 93 (upd ((sI φ 91 (upd (φ.1 91) 0 (iI 0))).1 93) 0 (iI 0))) 101 (upd ((sI (sI φ 91 (upd (φ.1 91) 0 (iI 0))) 93 (upd ((sI φ 91 (upd (φ.1 91) 0 (iI 0))).1 93) 0 (iI 0))).1 101) 0 (iI 0))).1 0) 13 (iI 0))).1 k = ψ.1 k := fun k h1 h2 h3 h4 h5 h6 => by rw [ea k (by omega) h4 h5 h6, f2.2 k h3, e1 k (by omega) h2]
      have e0 : ∀ j, j ≠ 13 → (sI (sI (sI (sI φ 91 (upd (φ.1 91) 0 (iI 0))) 93 (upd ((sI φ 91 (upd (φ.1 91) 0 (iI 0))).1 93) 0 (iI 0))) 101 (upd ((sI (sI φ 91 (upd (φ.1 91) 0 (iI 0))) 93 (upd ((sI φ 91 (upd (φ.1 91) 0 (iI 0))).1 93) 0 (iI 0))).1 101) 0 (iI 0))) 0 (upd ((sI (sI (sI φ 91 (upd (φ.1 91) 0 (iI 0))) 93 (upd ((sI φ 91 (upd (φ.1 91) 0 (iI 0))).1 93) 0 (iI 0))) 101 (upd ((sI (sI φ 91 (upd (φ.1 91) 0 (iI 0))) 93 (upd ((sI φ 91 (upd (φ.1 91) 0 (iI 0))).1 93) 0 (iI 0))).1 101) 0 (iI 0))).1 0) 13 (iI 0))).1 0 j = ψ.1 0 j := fun j hj => by rw [sI_same, upd_ne _ _ _ _ hj, sI_ne _ _ _ _ (by decide), sI_ne _ _ _ _ (by decide), sI_ne _ _ _ _ (by decide), f2.2 0 (by decide), e1 0 (by decide) (by decide)]
      refine ⟨⟨?_, fun i b hb => by simp [tn2, tnX, xt] at hb⟩, ?_, ?_, ⟨?_, fun a ha => ?_⟩, ⟨?_, ?_⟩, ⟨by rw [sI_same, upd_same]; rfl, fun a l q => by cases q⟩, ⟨by rw [sI_ne _ _ _ _ (by decide), sI_same, upd_same]; rfl, fun j m hm => by simp [tn2, tnX, xm] at hm⟩, LsC_fr c8 hK0.L.1 (fun k a => eb k (by omega) (by omega) (by omega) (by omega) (by omega) (by omega)), PsC_fr c9 hK0.p.1 (e0 7 (by decide)) (fun k a b => eb k (by omega) (by omega) (by omega) (by omega) (by omega) (by omega)), by rw [e0 16 (by decide)]; exact c10, by rw [e0 17 (by decide)]; exact c11⟩
      · rw [ea 1 (by decide) (by decide) (by decide) (by decide), f2.2 1 (by decide)]; exact h11
      · exact TwC_fr hT3 hS.1 hS.2.1 (fun k a b => by rw [ea k (by omega) (by omega) (by omega) (by omega), f2.2 k (by omega)])
      · exact WC_fr hW (fun k a b => ea k (by omega) (by omega) (by omega) (by omega))
      · rw [sI_ne _ _ _ _ (by decide), sI_ne _ _ _ _ (by decide), sI_ne _ _ _ _ (by decide)]; exact e91.trans (upd_same _ _ _)
      · have ha : a = begW s := by simpa [tn2, tnX, xw, xa] using ha
        subst ha
        intro i k h1
        exact absurd h1 (Nat.not_lt_zero _)
      · rw [sI_ne _ _ _ _ (by decide), sI_ne _ _ _ _ (by decide), sI_same, upd_same]; rfl
      · obtain ⟨nx, n1, n2, n3⟩ := hA.2
        refine ⟨nx, n1, ?_, fun j a ha => by simp [tn2, tnX, xa] at ha⟩
        rw [sI_ne _ _ _ _ (by decide), sI_ne _ _ _ _ (by decide), sI_same, upd_ne _ _ _ _ (by decide), sI_ne _ _ _ _ (by decide)]
        exact n2
    · exact absurd h11 (by decide)

theorem ct_text0 {l : Launch} {D : va_G} {cA ad : Nat → Nat} {d : Nat} {σ : AS} {K : Option Value → AS → Prop} {X : XS} (hR : RO σ) (hK0 : XK X) (hC : CI σ X) (hK : ∀ τ, FC σ τ → CI τ (txt2 X 0).1 → XK (txt2 X 0).1 → K (some (.int (iI (txt2 X 0).2))) τ) : Call l D cA ad (d + 38) mX11_text [.ref 0, .int (iI 0)] σ K := by
  refine call_go (by decide) (Nat.le_of_ble_eq_true rfl) (show Go l D cA ad (d + 38) mX11_text 0 [.ref 0, .int (iI 0)] [] σ K from ?_)
  refine go_iload_n dX11_text_0 rfl ?_
  refine go_tabIn (off := 27) (tgt := 28) dX11_text_1 (by decide) (by decide) (by decide) (by decide) ?_
  refine go_aload_n dX11_text_28 rfl ?_
  refine go_callV (as := []) wX11_125 dX11_text_29 rfl rfl rfl rfl (Nat.le_of_ble_eq_true rfl) (ct_X11_settleTown hR hK0 hC (fun τ fc hC2 hK2 => ?_))
  refine go_iret rfl rfl dX11_text_32 ?_
  exact hK τ fc hC2 hK2

theorem ct_text1 {l : Launch} {D : va_G} {cA ad : Nat → Nat} {d : Nat} {σ : AS} {K : Option Value → AS → Prop} {X : XS} (hR : RO σ) (hK0 : XK X) (hC : CI σ X) (hK : ∀ τ, FC σ τ → CI τ (txt2 X 1).1 → XK (txt2 X 1).1 → K (some (.int (iI (txt2 X 1).2))) τ) : Call l D cA ad (d + 38) mX11_text [.ref 0, .int (iI 1)] σ K := by
  refine call_go (by decide) (Nat.le_of_ble_eq_true rfl) (show Go l D cA ad (d + 38) mX11_text 0 [.ref 0, .int (iI 1)] [] σ K from ?_)
  refine go_iload_n dX11_text_0 rfl ?_
  refine go_tabIn (off := 32) (tgt := 33) dX11_text_1 (by decide) (by decide) (by decide) (by decide) ?_
  refine go_aload_n dX11_text_33 rfl ?_
  refine go_callV (as := []) wX11_129 dX11_text_34 rfl rfl rfl rfl (Nat.le_of_ble_eq_true rfl) (ct_X11_keepLaw hR hK0 hC (fun τ fc hC2 hK2 => ?_))
  refine go_iret rfl rfl dX11_text_37 ?_
  exact hK τ fc hC2 hK2

theorem ct_text2 {l : Launch} {D : va_G} {cA ad : Nat → Nat} {d : Nat} {σ : AS} {K : Option Value → AS → Prop} {X : XS} (hR : RO σ) (hK0 : XK X) (hC : CI σ X) (hK : ∀ τ, FC σ τ → CI τ (txt2 X 2).1 → XK (txt2 X 2).1 → K (some (.int (iI (txt2 X 2).2))) τ) : Call l D cA ad (d + 38) mX11_text [.ref 0, .int (iI 2)] σ K := by
  refine call_go (by decide) (Nat.le_of_ble_eq_true rfl) (show Go l D cA ad (d + 38) mX11_text 0 [.ref 0, .int (iI 2)] [] σ K from ?_)
  refine go_iload_n dX11_text_0 rfl ?_
  refine go_tabIn (off := 37) (tgt := 38) dX11_text_1 (by decide) (by decide) (by decide) (by decide) ?_
  refine go_aload_n dX11_text_38 rfl ?_
  refine go_callV (as := []) wX11_132 dX11_text_39 rfl rfl rfl rfl (Nat.le_of_ble_eq_true rfl) (ct_X11_keepPlan hR hK0 hC (fun τ fc hC2 hK2 => ?_))
  refine go_iret rfl rfl dX11_text_42 ?_
  exact hK τ fc hC2 hK2

theorem ct_X11_text {l : Launch} {D : va_G} {cA ad : Nat → Nat} {d : Nat} {σ : AS} {K : Option Value → AS → Prop} {X : XS} {a : Int} (hR : RO σ) (hK0 : XK X) (hC : CI σ X) (ha32 : -2147483648 ≤ a ∧ a < 2147483648) (hK : ∀ τ, FC σ τ → CI τ (txt2 X a).1 → XK (txt2 X a).1 → K (some (.int (iI (txt2 X a).2))) τ) : Call l D cA ad (d + 38) mX11_text [.ref 0, .int (iI a)] σ K := by
  by_cases h : 0 ≤ a ∧ a ≤ 2
  · rcases (show a = 0 ∨ a = 1 ∨ a = 2 by omega) with rfl | rfl | rfl
    · exact ct_text0 hR hK0 hC hK
    · exact ct_text1 hR hK0 hC hK
    · exact ct_text2 hR hK0 hC hK
  refine call_go (by decide) (Nat.le_of_ble_eq_true rfl) (show Go l D cA ad (d + 38) mX11_text 0 [.ref 0, .int (iI a)] [] σ K from ?_)
  refine go_iload_n dX11_text_0 rfl ?_
  refine go_tabOut (tgt := 43) dX11_text_1 (by rw [iI_toInt (by omega) (by omega)]; omega) (by decide) ?_
  refine go_iconst (v := iI (-1)) dX11_text_43 (by decide) ?_
  refine go_iret rfl rfl dX11_text_44 ?_
  rw [txt_n h] at hK
  exact hK σ FC.rf hC hK0
