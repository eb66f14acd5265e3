/-! questions -/
theorem ct_told2 {l : Launch} {D : va_G} {cA ad : Nat → Nat} {d : Nat} {σ : AS} {K : Option Value → AS → Prop} {s : PS} (hT : TwC σ s) (hS : TwK s) (hK1 : 0 < nP s → K (some (.int (iI 1))) σ) (hK0 : nP s = 0 → K (some (.int (iI 0))) σ) : Call l D cA ad d mX9_isTold [.ref 3] σ K := by
  refine ct_X9_isTold rfl hT.1 (by have := hS.1; omega) ?_
  by_cases h : 0 < nP s
  · rw [if_pos h]; exact hK1 h
  · rw [if_neg h]; exact hK0 (by omega)
theorem ct_hasPond2 {l : Launch} {D : va_G} {cA ad : Nat → Nat} {d : Nat} {σ : AS} {K : Option Value → AS → Prop} {s : PS} {p : Int} (hp : -2147483648 ≤ p ∧ p < 2147483648) (hT : TwC σ s) (hS : TwK s) (hK1 : ∀ n : Nat, p = n → n < nP s → K (some (.int (iI 1))) σ) (hK0 : ¬ (0 ≤ p ∧ p < nP s) → K (some (.int (iI 0))) σ) : Call l D cA ad d mX9_hasPond [.ref 3, .int (iI p)] σ K := by
  refine ct_X9_hasPond hp rfl hT.1 (by have := hS.1; omega) ?_
  by_cases h : 0 ≤ p ∧ p < nP s
  · rw [if_pos h]; exact hK1 p.toNat (by omega) (by omega)
  · rw [if_neg h]; exact hK0 h
theorem ct_hasPipe2 {l : Launch} {D : va_G} {cA ad : Nat → Nat} {d : Nat} {σ : AS} {K : Option Value → AS → Prop} {s : PS} {p : Int} (hp : -2147483648 ≤ p ∧ p < 2147483648) (hT : TwC σ s) (hS : TwK s) (hK1 : ∀ n : Nat, p = n → n < nQ s → K (some (.int (iI 1))) σ) (hK0 : ¬ (0 ≤ p ∧ p < nQ s) → K (some (.int (iI 0))) σ) : Call l D cA ad d mX9_hasPipe [.ref 3, .int (iI p)] σ K := by
  refine ct_X9_hasPipe hp rfl hT.2.1 (by have := hS.2.1; omega) ?_
  by_cases h : 0 ≤ p ∧ p < nQ s
  · rw [if_pos h]; exact hK1 p.toNat (by omega) (by omega)
  · rw [if_neg h]; exact hK0 h
theorem ct_isIn2 {l : Launch} {D : va_G} {cA ad : Nat → Nat} {d : Nat} {σ : AS} {K : Option Value → AS → Prop} {v x y : Int} {a b : Int64} (ha : a.toInt = x) (hb : b.toInt = y) (hv : -2147483648 ≤ v ∧ v < 2147483648) (hK1 : x ≤ v ∧ v ≤ y → K (some (.int (iI 1))) σ) (hK0 : ¬ (x ≤ v ∧ v ≤ y) → K (some (.int (iI 0))) σ) : Call l D cA ad d mX12_isIn [.long (lL v), .long a, .long b] σ K := by
  refine ct_X12_isIn ?_
  rw [ha, hb, lL_toInt (by omega)]
  by_cases h : x ≤ v ∧ v ≤ y
  · rw [if_pos h]; exact hK1 h
  · rw [if_neg h]; exact hK0 h
theorem ct_isPond2 {l : Launch} {D : va_G} {cA ad : Nat → Nat} {d : Nat} {σ : AS} {K : Option Value → AS → Prop} {s : PS} {p : Int} (hp : -2147483648 ≤ p ∧ p < 2147483648) (hT : TwM σ s) (hS : TwK s) (hK1 : ∀ n : Nat, p = n → n < nP s → K (some (.int (iI 1))) σ) (hK0 : ¬ (0 ≤ p ∧ p < nP s) → K (some (.int (iI 0))) σ) : Call l D cA ad d mX12_isPond [.ref 111, .int (iI p)] σ K := by
  have hP7 := hS.1
  have hQ9 := hS.2.1
  refine call_go (by decide) (Nat.le_of_ble_eq_true rfl) (show Go l D cA ad d mX12_isPond 0 [.ref 111, .int (iI p)] [] σ K from ?_)
  refine go_iload_n dX12_isPond_0 rfl ?_
  refine go_if_lt (tgt := 16) dX12_isPond_1 (by decide) (fun h1 => ?_) (fun h1 => ?_)
  · rw [iI_lt0 (by omega)] at h1
    refine go_iconst (v := iI 0) dX12_isPond_16 (by decide) ?_
    refine go_iret rfl rfl dX12_isPond_17 ?_
    exact hK0 (by omega)
  · rw [iI_lt0 (by omega)] at h1
    refine go_iload_n dX12_isPond_4 rfl ?_
    refine go_aload_n dX12_isPond_5 rfl ?_
    refine go_getI fX12_294 dX12_isPond_6 rfl ?_
    refine go_icmp_ge (tgt := 16) dX12_isPond_9 (by decide) (fun h9 => ?_) (fun h9 => ?_)
    · rw [hT.1, iI_le (by omega)] at h9
      refine go_iconst (v := iI 0) dX12_isPond_16 (by decide) ?_
      refine go_iret rfl rfl dX12_isPond_17 ?_
      exact hK0 (by omega)
    · rw [hT.1, iI_le (by omega)] at h9
      refine go_iconst (v := iI 1) dX12_isPond_12 (by decide) ?_
      refine go_goto (tgt := 17) dX12_isPond_13 (by decide) ?_
      refine go_iret rfl rfl dX12_isPond_17 ?_
      exact hK1 p.toNat (by omega) (by omega)

theorem ct_isPipe2 {l : Launch} {D : va_G} {cA ad : Nat → Nat} {d : Nat} {σ : AS} {K : Option Value → AS → Prop} {s : PS} {p : Int} (hp : -2147483648 ≤ p ∧ p < 2147483648) (hT : TwM σ s) (hS : TwK s) (hK1 : ∀ n : Nat, p = n → n < nQ s → K (some (.int (iI 1))) σ) (hK0 : ¬ (0 ≤ p ∧ p < nQ s) → K (some (.int (iI 0))) σ) : Call l D cA ad d mX12_isPipe [.ref 111, .int (iI p)] σ K := by
  have hP7 := hS.1
  have hQ9 := hS.2.1
  refine call_go (by decide) (Nat.le_of_ble_eq_true rfl) (show Go l D cA ad d mX12_isPipe 0 [.ref 111, .int (iI p)] [] σ K from ?_)
  refine go_iload_n dX12_isPipe_0 rfl ?_
  refine go_if_lt (tgt := 16) dX12_isPipe_1 (by decide) (fun h1 => ?_) (fun h1 => ?_)
  · rw [iI_lt0 (by omega)] at h1
    refine go_iconst (v := iI 0) dX12_isPipe_16 (by decide) ?_
    refine go_iret rfl rfl dX12_isPipe_17 ?_
    exact hK0 (by omega)
  · rw [iI_lt0 (by omega)] at h1
    refine go_iload_n dX12_isPipe_4 rfl ?_
    refine go_aload_n dX12_isPipe_5 rfl ?_
    refine go_getI fX12_297 dX12_isPipe_6 rfl ?_
    refine go_icmp_ge (tgt := 16) dX12_isPipe_9 (by decide) (fun h9 => ?_) (fun h9 => ?_)
    · rw [hT.2.1, iI_le (by omega)] at h9
      refine go_iconst (v := iI 0) dX12_isPipe_16 (by decide) ?_
      refine go_iret rfl rfl dX12_isPipe_17 ?_
      exact hK0 (by omega)
    · rw [hT.2.1, iI_le (by omega)] at h9
      refine go_iconst (v := iI 1) dX12_isPipe_12 (by decide) ?_
      refine go_goto (tgt := 17) dX12_isPipe_13 (by decide) ?_
      refine go_iret rfl rfl dX12_isPipe_17 ?_
      exact hK1 p.toNat (by omega) (by omega)

def skyA (X : XS) (a : Int) : Int := if 0 < nP (xs X) ∧ 0 ≤ a ∧ a < 3 then skv (xs X) a.toNat else -1
def bareA (X : XS) : Int := if 0 < nP (xs X) then (barF (xs X) (xw X) : Int) else -1
def aheadA (X : XS) (p n : Int) : Int := if (0 ≤ p ∧ p < nP (xs X)) ∧ 0 ≤ n ∧ n ≤ 60 then wa (aftF X n.toNat (opn (xw X))) p.toNat else -1
def readsA (X : XS) (n : Int) : Int := if 0 < nP (xs X) ∧ 0 ≤ n ∧ n ≤ 60 then (litF (xs X) (aftF X n.toNat (opn (xw X))) : Int) else -1
def trendA (X : XS) (p : Int) : Int := if 0 ≤ p ∧ p < nP (xs X) then wa (aftF X 1 (opn (xw X))) p.toNat - wa (xw X) p.toNat else -1000000
def eatenA (X : XS) (n : Int) : Int := if 0 < nP (xs X) ∧ 1 ≤ n ∧ n ≤ 60 then suF (ca (xw X)) (nP (xs X)) - suF (ca (aftF X n.toNat (opn (xw X)))) (nP (xs X)) else -1000000
def pipeA (X : XS) (k j : Int) : Int := if (0 ≤ k ∧ k < nQ (xs X)) ∧ 0 ≤ j ∧ j ≤ 5 then (if j = 4 then ((opn (xw X) / 2 ^ k.toNat % 2 : Nat) : Int) else if j = 5 then flF (xs X) (xv X) (xw X) k.toNat else pp (xs X) k.toNat j.toNat) else -1
theorem ct_X11_sky {l : Launch} {D : va_G} {cA ad : Nat → Nat} {d : Nat} {σ : AS} {K : Option Value → AS → Prop} {X : XS} {a : Int} (hR : RO σ) (hK0 : XK X) (hC : CI σ X) (ha32 : -2147483648 ≤ a ∧ a < 2147483648) (hK : ∀ τ, QF σ τ → K (some (.int (iI (skyA X a)))) τ) : Call l D cA ad (d + 1) mX11_sky [.ref 0, .int (iI a)] σ K := by
  refine call_go (by decide) (Nat.le_of_ble_eq_true rfl) (show Go l D cA ad (d + 1) mX11_sky 0 [.ref 0, .int (iI a)] [] σ K from ?_)
  refine go_aload_n dX11_sky_0 rfl ?_
  refine go_getR fX11_19 dX11_sky_1 rfl (hR _ _ _ rfl) ?_
  refine go_callV (as := []) wX11_135 dX11_sky_4 rfl rfl rfl rfl (Nat.le_of_ble_eq_true rfl) (ct_told2 hC.2.1 hK0.s (fun hn => ?_) (fun hn => ?_))
  · refine go_if_eq (tgt := 26) dX11_sky_7 (by decide) (fun h7 => ?_) (fun h7 => ?_)
    · exact absurd h7 (by decide)
    · refine go_iload_n dX11_sky_10 rfl ?_
      refine go_if_lt (tgt := 26) dX11_sky_11 (by decide) (fun h11 => ?_) (fun h11 => ?_)
      · rw [iI_lt0 (by omega)] at h11
        refine go_iconst (v := iI (-1)) dX11_sky_26 (by decide) ?_
        refine go_iret rfl rfl dX11_sky_27 ?_
        have e : skyA X a = -1 := by unfold skyA; rw [if_neg (by omega)]
        have h9 := hK σ QF.rf
        rw [e] at h9
        exact h9
      · rw [iI_lt0 (by omega)] at h11
        refine go_iload_n dX11_sky_14 rfl ?_
        refine go_aload_n dX11_sky_15 rfl ?_
        refine go_getR fX11_19 dX11_sky_16 rfl (hR _ _ _ rfl) ?_
        refine go_getR fX11_138 dX11_sky_19 rfl (hR _ _ _ rfl) ?_
        refine go_alen1 dX11_sky_22 rfl ?_
        refine go_icmp_lt (tgt := 28) dX11_sky_23 (by decide) (fun h23 => ?_) (fun h23 => ?_)
        · rw [show Int32.ofNat 3 = iI 3 from rfl, iI_lt (by omega)] at h23
          refine go_aload_n dX11_sky_28 rfl ?_
          refine go_getR fX11_19 dX11_sky_29 rfl (hR _ _ _ rfl) ?_
          refine go_getR fX11_138 dX11_sky_32 rfl (hR _ _ _ rfl) ?_
          refine go_iload_n dX11_sky_35 rfl ?_
          refine go_iald dX11_sky_36 rfl (vp_iI (by omega)) ?_
          refine go_iret rfl rfl dX11_sky_37 ?_
          rw [iI_cl (by omega), hC.2.1.2.2.1 a.toNat (by omega)]
          have e : skyA X a = skv (xs X) a.toNat := by unfold skyA; rw [if_pos (by omega)]
          have h9 := hK σ QF.rf
          rw [e] at h9
          exact h9
        · rw [show Int32.ofNat 3 = iI 3 from rfl, iI_lt (by omega)] at h23
          refine go_iconst (v := iI (-1)) dX11_sky_26 (by decide) ?_
          refine go_iret rfl rfl dX11_sky_27 ?_
          have e : skyA X a = -1 := by unfold skyA; rw [if_neg (by omega)]
          have h9 := hK σ QF.rf
          rw [e] at h9
          exact h9
  · refine go_if_eq (tgt := 26) dX11_sky_7 (by decide) (fun h7 => ?_) (fun h7 => ?_)
    · refine go_iconst (v := iI (-1)) dX11_sky_26 (by decide) ?_
      refine go_iret rfl rfl dX11_sky_27 ?_
      have e : skyA X a = -1 := by unfold skyA; rw [if_neg (by omega)]
      have h9 := hK σ QF.rf
      rw [e] at h9
      exact h9
    · exact absurd h7 (by decide)

theorem ct_X12_sky {l : Launch} {D : va_G} {cA ad : Nat → Nat} {d : Nat} {σ : AS} {K : Option Value → AS → Prop} {X : XS} {a : Int} (hR : RO σ) (hK0 : XK X) (hC : MI σ X) (ha32 : -2147483648 ≤ a ∧ a < 2147483648) (hK : ∀ τ, DF (xL X) σ τ → K (some (.int (iI (skyA X a)))) τ) : Call l D cA ad (d + 1) mX12_sky [.ref 111, .int (iI a)] σ K := by
  have hP7 := hK0.s.1
  have hQ9 := hK0.s.2.1
  refine call_go (by decide) (Nat.le_of_ble_eq_true rfl) (show Go l D cA ad (d + 1) mX12_sky 0 [.ref 111, .int (iI a)] [] σ K from ?_)
  refine go_aload_n dX12_sky_0 rfl ?_
  refine go_iconst (v := iI 0) dX12_sky_1 (by decide) ?_
  refine go_putI fX12_96 rfl dX12_sky_2 rfl rfl rfl ?_
  have hq : DF (xL X) σ (sI σ 111 (upd (σ.1 111) 0 (iI 0))) := DF_f0 DF.rf
  have hR0 := hq.RO hR
  have hC0 := hC.q hK0 hq
  generalize sI σ 111 (upd (σ.1 111) 0 (iI 0)) = τ at hq hR0 hC0 ⊢
  refine go_aload_n dX12_sky_5 rfl ?_
  refine go_getI fX12_294 dX12_sky_6 rfl ?_
  refine go_if_le (tgt := 33) dX12_sky_9 (by decide) (fun h9 => ?_) (fun h9 => ?_)
  · rw [hC0.2.1.1, iI_le0 (by omega)] at h9
    refine go_iconst (v := iI (-1)) dX12_sky_33 (by decide) ?_
    refine go_iret rfl rfl dX12_sky_34 ?_
    have e : skyA X a = -1 := by unfold skyA; rw [if_neg (by omega)]
    have h9 := hK τ hq
    rw [e] at h9
    exact h9
  · rw [hC0.2.1.1, iI_le0 (by omega)] at h9
    refine go_iload_n dX12_sky_12 rfl ?_
    refine go_i2l dX12_sky_13 ?_
    rw [i2l_iI (by omega)]
    refine go_lconst (v := 0) dX12_sky_14 (by decide) ?_
    refine go_ldc2 lX12_275 dX12_sky_15 ?_
    refine go_callS (as := [_, _, _]) wX12_217 dX12_sky_18 rfl rfl (Nat.le_of_ble_eq_true rfl) (ct_isIn2 (x := 0) (y := 2) (by decide) (by decide) (by omega) (fun ha => ?_) (fun ha => ?_))
    · refine go_if_eq (tgt := 33) dX12_sky_21 (by decide) (fun h21 => ?_) (fun h21 => ?_)
      · exact absurd h21 (by decide)
      · refine go_aload_n dX12_sky_24 rfl ?_
        refine go_getR fX12_37 dX12_sky_25 rfl (hR0 _ _ _ rfl) ?_
        refine go_iload_n dX12_sky_28 rfl ?_
        refine go_iald dX12_sky_29 rfl (vp_iI (by omega)) ?_
        refine go_goto (tgt := 34) dX12_sky_30 (by decide) ?_
        refine go_iret rfl rfl dX12_sky_34 ?_
        rw [iI_cl (by omega), hC0.2.1.2.2.1 a.toNat (by omega)]
        have e : skyA X a = skv (xs X) a.toNat := by unfold skyA; rw [if_pos (by omega)]
        have h9 := hK τ hq
        rw [e] at h9
        exact h9
    · refine go_if_eq (tgt := 33) dX12_sky_21 (by decide) (fun h21 => ?_) (fun h21 => ?_)
      · refine go_iconst (v := iI (-1)) dX12_sky_33 (by decide) ?_
        refine go_iret rfl rfl dX12_sky_34 ?_
        have e : skyA X a = -1 := by unfold skyA; rw [if_neg (by omega)]
        have h9 := hK τ hq
        rw [e] at h9
        exact h9
      · exact absurd h21 (by decide)

theorem ct_X11_bare {l : Launch} {D : va_G} {cA ad : Nat → Nat} {d : Nat} {σ : AS} {K : Option Value → AS → Prop} {X : XS} (hR : RO σ) (hK0 : XK X) (hC : CI σ X) (hK : ∀ τ, QF σ τ → K (some (.int (iI (bareA X)))) τ) : Call l D cA ad (d + 1) mX11_bare [.ref 0] σ K := by
  refine call_go (by decide) (Nat.le_of_ble_eq_true rfl) (show Go l D cA ad (d + 1) mX11_bare 0 [.ref 0] [] σ K from ?_)
  refine go_aload_n dX11_bare_0 rfl ?_
  refine go_getR fX11_19 dX11_bare_1 rfl (hR _ _ _ rfl) ?_
  refine go_callV (as := []) wX11_135 dX11_bare_4 rfl rfl rfl rfl (Nat.le_of_ble_eq_true rfl) (ct_told2 hC.2.1 hK0.s (fun hn => ?_) (fun hn => ?_))
  · refine go_if_eq (tgt := 24) dX11_bare_7 (by decide) (fun h7 => ?_) (fun h7 => ?_)
    · exact absurd h7 (by decide)
    · refine go_aload_n dX11_bare_10 rfl ?_
      refine go_getR fX11_19 dX11_bare_11 rfl (hR _ _ _ rfl) ?_
      refine go_aload_n dX11_bare_14 rfl ?_
      refine go_getR fX11_58 dX11_bare_15 rfl (hR _ _ _ rfl) ?_
      refine go_callV (as := [_]) wX11_237 dX11_bare_18 rfl rfl rfl rfl (Nat.le_of_ble_eq_true rfl) (ct_X9_bareAmong hR hC.2.1 hK0.s WB_87 hC.2.2.1 hK0.w ?_)
      refine go_goto (tgt := 25) dX11_bare_21 (by decide) ?_
      refine go_iret rfl rfl dX11_bare_25 ?_
      have e : bareA X = (barF (xs X) (xw X) : Int) := by unfold bareA; rw [if_pos (by omega)]
      have h9 := hK σ QF.rf
      rw [e] at h9
      exact h9
  · refine go_if_eq (tgt := 24) dX11_bare_7 (by decide) (fun h7 => ?_) (fun h7 => ?_)
    · refine go_iconst (v := iI (-1)) dX11_bare_24 (by decide) ?_
      refine go_iret rfl rfl dX11_bare_25 ?_
      have e : bareA X = -1 := by unfold bareA; rw [if_neg (by omega)]
      have h9 := hK σ QF.rf
      rw [e] at h9
      exact h9
    · exact absurd h7 (by decide)

theorem ct_X12_bare {l : Launch} {D : va_G} {cA ad : Nat → Nat} {d : Nat} {σ : AS} {K : Option Value → AS → Prop} {X : XS} (hR : RO σ) (hK0 : XK X) (hC : MI σ X) (hK : ∀ τ, DF (xL X) σ τ → K (some (.int (iI (bareA X)))) τ) : Call l D cA ad (d + 2) mX12_bare [.ref 111] σ K := by
  have hP7 := hK0.s.1
  have hQ9 := hK0.s.2.1
  refine call_go (by decide) (Nat.le_of_ble_eq_true rfl) (show Go l D cA ad (d + 2) mX12_bare 0 [.ref 111] [] σ K from ?_)
  refine go_aload_n dX12_bare_0 rfl ?_
  refine go_iconst (v := iI 0) dX12_bare_1 (by decide) ?_
  refine go_putI fX12_96 rfl dX12_bare_2 rfl rfl rfl ?_
  have hq : DF (xL X) σ (sI σ 111 (upd (σ.1 111) 0 (iI 0))) := DF_f0 DF.rf
  have hR0 := hq.RO hR
  have hC0 := hC.q hK0 hq
  generalize sI σ 111 (upd (σ.1 111) 0 (iI 0)) = τ at hq hR0 hC0 ⊢
  refine go_aload_n dX12_bare_5 rfl ?_
  refine go_getI fX12_294 dX12_bare_6 rfl ?_
  refine go_if_ne (tgt := 16) dX12_bare_9 (by decide) (fun h9 => ?_) (fun h9 => ?_)
  · rw [hC0.2.1.1, iI_eq0 (by omega)] at h9
    refine go_aload_n dX12_bare_16 rfl ?_
    refine go_aload_n dX12_bare_17 rfl ?_
    refine go_getR fX12_61 dX12_bare_18 rfl (hR0 _ _ _ rfl) ?_
    refine go_callV (as := [_]) wX12_360 dX12_bare_21 rfl rfl rfl rfl (Nat.le_of_ble_eq_true rfl) (ct_X12_bareIn hR0 hC0.2.1 hK0.s rfl (WM_R.mpr hC0.2.2.1.1) hK0.w ?_)
    refine go_iret rfl rfl dX12_bare_24 ?_
    have e : bareA X = (barF (xs X) (xw X) : Int) := by unfold bareA; rw [if_pos (by omega)]
    have h9 := hK τ hq
    rw [e] at h9
    exact h9
  · rw [hC0.2.1.1, iI_eq0 (by omega)] at h9
    refine go_iconst (v := iI (-1)) dX12_bare_12 (by decide) ?_
    refine go_goto (tgt := 24) dX12_bare_13 (by decide) ?_
    refine go_iret rfl rfl dX12_bare_24 ?_
    have e : bareA X = -1 := by unfold bareA; rw [if_neg (by omega)]
    have h9 := hK τ hq
    rw [e] at h9
    exact h9

theorem ct_X11_ahead {l : Launch} {D : va_G} {cA ad : Nat → Nat} {d : Nat} {σ : AS} {K : Option Value → AS → Prop} {X : XS} {p n : Int} (hR : RO σ) (hK0 : XK X) (hC : CI σ X) (hp32 : -2147483648 ≤ p ∧ p < 2147483648) (hn32 : -2147483648 ≤ n ∧ n < 2147483648) (hK : ∀ τ, QF σ τ → K (some (.int (iI (aheadA X p n)))) τ) : Call l D cA ad (d + 6) mX11_ahead [.ref 0, .int (iI p), .int (iI n)] σ K := by
  have hP7 := hK0.s.1
  have hQ9 := hK0.s.2.1
  refine call_go (by decide) (Nat.le_of_ble_eq_true rfl) (show Go l D cA ad (d + 6) mX11_ahead 0 [.ref 0, .int (iI p), .int (iI n)] [] σ K from ?_)
  refine go_aload_n dX11_ahead_0 rfl ?_
  refine go_getR fX11_19 dX11_ahead_1 rfl (hR _ _ _ rfl) ?_
  refine go_iload_n dX11_ahead_4 rfl ?_
  refine go_callV (as := [_]) wX11_142 dX11_ahead_5 rfl rfl rfl rfl (Nat.le_of_ble_eq_true rfl) (ct_hasPond2 hp32 hC.2.1 hK0.s (fun k hke hkl => ?_) (fun hkx => ?_))
  · refine go_if_eq (tgt := 21) dX11_ahead_8 (by decide) (fun h8 => ?_) (fun h8 => ?_)
    · exact absurd h8 (by decide)
    · refine go_iload_n dX11_ahead_11 rfl ?_
      refine go_if_lt (tgt := 21) dX11_ahead_12 (by decide) (fun h12 => ?_) (fun h12 => ?_)
      · rw [iI_lt0 (by omega)] at h12
        refine go_iconst (v := iI (-1)) dX11_ahead_21 (by decide) ?_
        refine go_iret rfl rfl dX11_ahead_22 ?_
        have e : aheadA X p n = -1 := by unfold aheadA; rw [if_neg (by omega)]
        have h9 := hK σ QF.rf
        rw [e] at h9
        exact h9
      · rw [iI_lt0 (by omega)] at h12
        refine go_iload_n dX11_ahead_15 rfl ?_
        refine go_bipush (v := iI 60) dX11_ahead_16 (by decide) ?_
        refine go_icmp_le (tgt := 23) dX11_ahead_18 (by decide) (fun h18 => ?_) (fun h18 => ?_)
        · rw [iI_le (by omega)] at h18
          obtain ⟨q, rfl⟩ : ∃ q : Nat, n = q := ⟨n.toNat, by omega⟩
          subst hke
          refine go_aload_n dX11_ahead_23 rfl ?_
          refine go_getR fX11_94 dX11_ahead_24 rfl (hR _ _ _ rfl) ?_
          refine go_iload_n dX11_ahead_27 rfl ?_
          refine go_aload_n dX11_ahead_28 rfl ?_
          refine go_getR fX11_58 dX11_ahead_29 rfl (hR _ _ _ rfl) ?_
          refine go_getI fX11_250 dX11_ahead_32 rfl ?_
          rw [hC.2.2.1.2.1]
          refine go_callV (as := [_, _]) wX11_253 dX11_ahead_35 rfl rfl rfl rfl (Nat.le_of_ble_eq_true rfl) (ct_X6_after (n := q) (m := opn (xw X)) hR hK0 hC (by omega) hK0.w.2.2.1 (fun τ hq hW => ?_))
          refine go_getR fX11_149 dX11_ahead_38 rfl (hq.RO hR _ _ _ rfl) ?_
          refine go_iload_n dX11_ahead_41 rfl ?_
          refine go_iald dX11_ahead_42 rfl (vp_iI (by omega)) ?_
          refine go_iret rfl rfl dX11_ahead_43 ?_
          rw [cl_n _ (by omega), (hW.1 k (by omega)).1]
          have e : aheadA X k q = wa (aftF X q (opn (xw X))) k := by unfold aheadA; rw [if_pos (by omega), Int.toNat_natCast, Int.toNat_natCast]
          have h9 := hK τ hq
          rw [e] at h9
          exact h9
        · rw [iI_le (by omega)] at h18
          refine go_iconst (v := iI (-1)) dX11_ahead_21 (by decide) ?_
          refine go_iret rfl rfl dX11_ahead_22 ?_
          have e : aheadA X p n = -1 := by unfold aheadA; rw [if_neg (by omega)]
          have h9 := hK σ QF.rf
          rw [e] at h9
          exact h9
  · refine go_if_eq (tgt := 21) dX11_ahead_8 (by decide) (fun h8 => ?_) (fun h8 => ?_)
    · refine go_iconst (v := iI (-1)) dX11_ahead_21 (by decide) ?_
      refine go_iret rfl rfl dX11_ahead_22 ?_
      have e : aheadA X p n = -1 := by unfold aheadA; rw [if_neg (by omega)]
      have h9 := hK σ QF.rf
      rw [e] at h9
      exact h9
    · exact absurd h8 (by decide)

theorem ct_X12_ahead {l : Launch} {D : va_G} {cA ad : Nat → Nat} {d : Nat} {σ : AS} {K : Option Value → AS → Prop} {X : XS} {p n : Int} (hR : RO σ) (hK0 : XK X) (hC : MI σ X) (hp32 : -2147483648 ≤ p ∧ p < 2147483648) (hn32 : -2147483648 ≤ n ∧ n < 2147483648) (hK : ∀ τ, DF (xL X) σ τ → K (some (.int (iI (aheadA X p n)))) τ) : Call l D cA ad (d + 37) mX12_ahead [.ref 111, .int (iI p), .int (iI n)] σ K := by
  have hP7 := hK0.s.1
  have hQ9 := hK0.s.2.1
  refine call_go (by decide) (Nat.le_of_ble_eq_true rfl) (show Go l D cA ad (d + 37) mX12_ahead 0 [.ref 111, .int (iI p), .int (iI n)] [] σ K from ?_)
  refine go_aload_n dX12_ahead_0 rfl ?_
  refine go_iconst (v := iI 0) dX12_ahead_1 (by decide) ?_
  refine go_putI fX12_96 rfl dX12_ahead_2 rfl rfl rfl ?_
  have hq : DF (xL X) σ (sI σ 111 (upd (σ.1 111) 0 (iI 0))) := DF_f0 DF.rf
  have hR0 := hq.RO hR
  have hC0 := hC.q hK0 hq
  generalize sI σ 111 (upd (σ.1 111) 0 (iI 0)) = τ at hq hR0 hC0 ⊢
  refine go_aload_n dX12_ahead_5 rfl ?_
  refine go_iload_n dX12_ahead_6 rfl ?_
  refine go_callV (as := [_]) wX12_364 dX12_ahead_7 rfl rfl rfl rfl (Nat.le_of_ble_eq_true rfl) (ct_isPond2 hp32 hC0.2.1 hK0.s (fun k hke hkl => ?_) (fun hkx => ?_))
  · refine go_if_eq (tgt := 25) dX12_ahead_10 (by decide) (fun h10 => ?_) (fun h10 => ?_)
    · exact absurd h10 (by decide)
    · refine go_iload_n dX12_ahead_13 rfl ?_
      refine go_i2l dX12_ahead_14 ?_
      rw [i2l_iI (by omega)]
      refine go_lconst (v := 0) dX12_ahead_15 (by decide) ?_
      refine go_ldc2 lX12_423 dX12_ahead_16 ?_
      refine go_callS (as := [_, _, _]) wX12_217 dX12_ahead_19 rfl rfl (Nat.le_of_ble_eq_true rfl) (ct_isIn2 (x := 0) (y := 60) (by decide) (by decide) (by omega) (fun hi => ?_) (fun hi => ?_))
      · refine go_if_ne (tgt := 27) dX12_ahead_22 (by decide) (fun h22 => ?_) (fun h22 => ?_)
        · obtain ⟨q, rfl⟩ : ∃ q : Nat, n = q := ⟨n.toNat, by omega⟩
          subst hke
          refine go_aload_n dX12_ahead_27 rfl ?_
          refine go_iload_n dX12_ahead_28 rfl ?_
          refine go_aload_n dX12_ahead_29 rfl ?_
          refine go_getR fX12_61 dX12_ahead_30 rfl (hR0 _ _ _ rfl) ?_
          refine go_bipush (v := iI 21) dX12_ahead_33 (by decide) ?_
          refine go_iald dX12_ahead_35 rfl (vp_iI (by decide)) ?_
          rw [show (iI 21).toNatClampNeg = 21 by decide, hC0.2.2.1.1.2.1]
          refine go_callV (as := [_, _]) wX12_425 dX12_ahead_36 rfl rfl rfl rfl (Nat.le_of_ble_eq_true rfl) (ct_X12_lay (n := q) (m := opn (xw X)) hR0 hK0 hC0 (by omega) hK0.w.2.2.1 (fun ρ hq2 hW => ?_))
          refine go_aload_n dX12_ahead_39 rfl ?_
          refine go_getR fX12_64 dX12_ahead_40 rfl (hq2.RO hR0 _ _ _ rfl) ?_
          refine go_iload_n dX12_ahead_43 rfl ?_
          refine go_callS (as := [_, _]) wX12_312 dX12_ahead_44 rfl rfl (Nat.le_of_ble_eq_true rfl) (ct_X12_water rfl hW (by omega) ?_)
          refine go_iret rfl rfl dX12_ahead_47 ?_
          have e : aheadA X k q = wa (aftF X q (opn (xw X))) k := by unfold aheadA; rw [if_pos (by omega), Int.toNat_natCast, Int.toNat_natCast]
          have h9 := hK ρ (hq.tr hq2)
          rw [e] at h9
          exact h9
        · exact absurd h22 (by decide)
      · refine go_if_ne (tgt := 27) dX12_ahead_22 (by decide) (fun h22 => ?_) (fun h22 => ?_)
        · exact absurd h22 (by decide)
        · refine go_iconst (v := iI (-1)) dX12_ahead_25 (by decide) ?_
          refine go_iret rfl rfl dX12_ahead_26 ?_
          have e : aheadA X p n = -1 := by unfold aheadA; rw [if_neg (by omega)]
          have h9 := hK τ hq
          rw [e] at h9
          exact h9
  · refine go_if_eq (tgt := 25) dX12_ahead_10 (by decide) (fun h10 => ?_) (fun h10 => ?_)
    · refine go_iconst (v := iI (-1)) dX12_ahead_25 (by decide) ?_
      refine go_iret rfl rfl dX12_ahead_26 ?_
      have e : aheadA X p n = -1 := by unfold aheadA; rw [if_neg (by omega)]
      have h9 := hK τ hq
      rw [e] at h9
      exact h9
    · exact absurd h10 (by decide)

theorem ct_X11_reads {l : Launch} {D : va_G} {cA ad : Nat → Nat} {d : Nat} {σ : AS} {K : Option Value → AS → Prop} {X : XS} {n : Int} (hR : RO σ) (hK0 : XK X) (hC : CI σ X) (hn32 : -2147483648 ≤ n ∧ n < 2147483648) (hK : ∀ τ, QF σ τ → K (some (.int (iI (readsA X n)))) τ) : Call l D cA ad (d + 6) mX11_reads [.ref 0, .int (iI n)] σ K := by
  have hP7 := hK0.s.1
  have hQ9 := hK0.s.2.1
  refine call_go (by decide) (Nat.le_of_ble_eq_true rfl) (show Go l D cA ad (d + 6) mX11_reads 0 [.ref 0, .int (iI n)] [] σ K from ?_)
  refine go_aload_n dX11_reads_0 rfl ?_
  refine go_getR fX11_19 dX11_reads_1 rfl (hR _ _ _ rfl) ?_
  refine go_callV (as := []) wX11_135 dX11_reads_4 rfl rfl rfl rfl (Nat.le_of_ble_eq_true rfl) (ct_told2 hC.2.1 hK0.s (fun hn => ?_) (fun hn => ?_))
  · refine go_if_eq (tgt := 20) dX11_reads_7 (by decide) (fun h7 => ?_) (fun h7 => ?_)
    · exact absurd h7 (by decide)
    · refine go_iload_n dX11_reads_10 rfl ?_
      refine go_if_lt (tgt := 20) dX11_reads_11 (by decide) (fun h11 => ?_) (fun h11 => ?_)
      · rw [iI_lt0 (by omega)] at h11
        refine go_iconst (v := iI (-1)) dX11_reads_20 (by decide) ?_
        refine go_iret rfl rfl dX11_reads_21 ?_
        have e : readsA X n = -1 := by unfold readsA; rw [if_neg (by omega)]
        have h9 := hK σ QF.rf
        rw [e] at h9
        exact h9
      · rw [iI_lt0 (by omega)] at h11
        refine go_iload_n dX11_reads_14 rfl ?_
        refine go_bipush (v := iI 60) dX11_reads_15 (by decide) ?_
        refine go_icmp_le (tgt := 22) dX11_reads_17 (by decide) (fun h17 => ?_) (fun h17 => ?_)
        · rw [iI_le (by omega)] at h17
          obtain ⟨q, rfl⟩ : ∃ q : Nat, n = q := ⟨n.toNat, by omega⟩
          refine go_aload_n dX11_reads_22 rfl ?_
          refine go_getR fX11_19 dX11_reads_23 rfl (hR _ _ _ rfl) ?_
          refine go_aload_n dX11_reads_26 rfl ?_
          refine go_getR fX11_94 dX11_reads_27 rfl (hR _ _ _ rfl) ?_
          refine go_iload_n dX11_reads_30 rfl ?_
          refine go_aload_n dX11_reads_31 rfl ?_
          refine go_getR fX11_58 dX11_reads_32 rfl (hR _ _ _ rfl) ?_
          refine go_getI fX11_250 dX11_reads_35 rfl ?_
          rw [hC.2.2.1.2.1]
          refine go_callV (as := [_, _]) wX11_253 dX11_reads_38 rfl rfl rfl rfl (Nat.le_of_ble_eq_true rfl) (ct_X6_after (n := q) (m := opn (xw X)) hR hK0 hC (by omega) hK0.w.2.2.1 (fun τ hq hW => ?_))
          refine go_callV (as := [_]) wX11_323 dX11_reads_41 rfl rfl rfl rfl (Nat.le_of_ble_eq_true rfl) (ct_X9_litAmong (hq.RO hR) (hC.q hK0 hq).2.1 hK0.s WB_106 hW (aftF_ok hK0 (by omega) hK0.w.2.2.1) ?_)
          refine go_iret rfl rfl dX11_reads_44 ?_
          have e : readsA X q = (litF (xs X) (aftF X q (opn (xw X))) : Int) := by unfold readsA; rw [if_pos (by omega), Int.toNat_natCast]
          have h9 := hK τ hq
          rw [e] at h9
          exact h9
        · rw [iI_le (by omega)] at h17
          refine go_iconst (v := iI (-1)) dX11_reads_20 (by decide) ?_
          refine go_iret rfl rfl dX11_reads_21 ?_
          have e : readsA X n = -1 := by unfold readsA; rw [if_neg (by omega)]
          have h9 := hK σ QF.rf
          rw [e] at h9
          exact h9
  · refine go_if_eq (tgt := 20) dX11_reads_7 (by decide) (fun h7 => ?_) (fun h7 => ?_)
    · refine go_iconst (v := iI (-1)) dX11_reads_20 (by decide) ?_
      refine go_iret rfl rfl dX11_reads_21 ?_
      have e : readsA X n = -1 := by unfold readsA; rw [if_neg (by omega)]
      have h9 := hK σ QF.rf
      rw [e] at h9
      exact h9
    · exact absurd h7 (by decide)

theorem rd42 {l : Launch} {D : va_G} {cA ad : Nat → Nat} {d : Nat} {σ : AS} {K : Option Value → AS → Prop} {s : PS} {w : WT} {v1 : Int32} (hR : RO σ) (hT : TwM σ s) (hS : TwK s) (hW : WM σ 125 w) (hw : WK s w) (hK : K (some (.int (iI (litF s w)))) σ) : ∀ i, i ≤ nP s → Go l D cA ad (d + 1) mX12_reads 42 [.ref 111, .int v1, .int (iI (btF (litP s w) i : Nat)), .int (iI i)] [] σ K := by
  have hP7 := hS.1
  refine up_loop ?_ (fun i hi ih => ?_)
  · refine go_iload_n dX12_reads_42 rfl ?_
    refine go_aload_n dX12_reads_43 rfl ?_
    refine go_getI fX12_294 dX12_reads_44 rfl ?_
    refine go_icmp_ge (tgt := 84) dX12_reads_47 (by decide) (fun h47 => ?_) (fun h47 => ?_)
    · refine go_iload_n dX12_reads_84 rfl ?_
      refine go_iret rfl rfl dX12_reads_85 ?_
      exact hK
    · exfalso
      rw [hT.1, iI_le (by omega)] at h47
      omega
  · refine go_iload_n dX12_reads_42 rfl ?_
    refine go_aload_n dX12_reads_43 rfl ?_
    refine go_getI fX12_294 dX12_reads_44 rfl ?_
    refine go_icmp_ge (tgt := 84) dX12_reads_47 (by decide) (fun h47 => ?_) (fun h47 => ?_)
    · exfalso
      rw [hT.1, iI_le (by omega)] at h47
      omega
    · have hbl := btF_512 (litP s w) i (by omega)
      have h7 := wk7 hS hw i
      have hpi := hS.2.2.2.1 i hi
      unfold PdK at hpi
      refine go_iload_n dX12_reads_50 rfl ?_
      refine go_aload_n dX12_reads_51 rfl ?_
      refine go_getR fX12_64 dX12_reads_52 rfl (hR _ _ _ rfl) ?_
      refine go_iload_n dX12_reads_55 rfl ?_
      refine go_callS (as := [_, _]) wX12_312 dX12_reads_56 rfl rfl (Nat.le_of_ble_eq_true rfl) (ct_X12_water rfl hW (by omega) ?_)
      refine go_aload_n dX12_reads_59 rfl ?_
      refine go_iload_n dX12_reads_60 rfl ?_
      refine go_bipush (v := iI 6) dX12_reads_61 (by decide) ?_
      refine go_callV (as := [_, _]) wX12_300 dX12_reads_63 rfl rfl rfl rfl (Nat.le_of_ble_eq_true rfl) (ct_X12_told (j := 6) hR hT hS.1 hi (by decide) ?_)
      refine go_icmp_gt (tgt := 75) dX12_reads_66 (by decide) (fun h66 => ?_) (fun h66 => ?_)
      · rw [iI_lt (by omega)] at h66
        refine go_iconst (v := iI 0) dX12_reads_75 (by decide) ?_
        refine go_ior dX12_reads_76 ?_
        rw [b_or0]
        rw [btF_f (by unfold litP; exact decide_eq_false (by omega))] at ih
        refine go_istore_n dX12_reads_77 (Nat.le_of_ble_eq_true rfl) rfl ?_
        refine go_iincI dX12_reads_78 rfl (Nat.le_of_ble_eq_true rfl) rfl ?_
        refine go_goto (tgt := 42) dX12_reads_81 (by decide) ?_
        simp only [List.set, iI_add]
        exact ih
      · rw [iI_lt (by omega)] at h66
        refine go_iconst (v := iI 1) dX12_reads_69 (by decide) ?_
        refine go_iload_n dX12_reads_70 rfl ?_
        refine go_ishl dX12_reads_71 ?_
        refine go_goto (tgt := 76) dX12_reads_72 (by decide) ?_
        refine go_ior dX12_reads_76 ?_
        rw [b_or _ hbl i (by omega)]
        rw [btF_t (by unfold litP; exact decide_eq_true (by omega))] at ih
        refine go_istore_n dX12_reads_77 (Nat.le_of_ble_eq_true rfl) rfl ?_
        refine go_iincI dX12_reads_78 rfl (Nat.le_of_ble_eq_true rfl) rfl ?_
        refine go_goto (tgt := 42) dX12_reads_81 (by decide) ?_
        simp only [List.set, iI_add]
        exact ih

theorem ct_X12_reads {l : Launch} {D : va_G} {cA ad : Nat → Nat} {d : Nat} {σ : AS} {K : Option Value → AS → Prop} {X : XS} {n : Int} (hR : RO σ) (hK0 : XK X) (hC : MI σ X) (hn32 : -2147483648 ≤ n ∧ n < 2147483648) (hK : ∀ τ, DF (xL X) σ τ → K (some (.int (iI (readsA X n)))) τ) : Call l D cA ad (d + 37) mX12_reads [.ref 111, .int (iI n)] σ K := by
  have hP7 := hK0.s.1
  have hQ9 := hK0.s.2.1
  refine call_go (by decide) (Nat.le_of_ble_eq_true rfl) (show Go l D cA ad (d + 37) mX12_reads 0 [.ref 111, .int (iI n), .null, .null] [] σ K from ?_)
  refine go_aload_n dX12_reads_0 rfl ?_
  refine go_iconst (v := iI 0) dX12_reads_1 (by decide) ?_
  refine go_putI fX12_96 rfl dX12_reads_2 rfl rfl rfl ?_
  have hq : DF (xL X) σ (sI σ 111 (upd (σ.1 111) 0 (iI 0))) := DF_f0 DF.rf
  have hR0 := hq.RO hR
  have hC0 := hC.q hK0 hq
  generalize sI σ 111 (upd (σ.1 111) 0 (iI 0)) = τ at hq hR0 hC0 ⊢
  refine go_aload_n dX12_reads_5 rfl ?_
  refine go_getI fX12_294 dX12_reads_6 rfl ?_
  refine go_if_eq (tgt := 24) dX12_reads_9 (by decide) (fun h9 => ?_) (fun h9 => ?_)
  · rw [hC0.2.1.1, iI_eq0 (by omega)] at h9
    refine go_iconst (v := iI (-1)) dX12_reads_24 (by decide) ?_
    refine go_iret rfl rfl dX12_reads_25 ?_
    have e : readsA X n = -1 := by unfold readsA; rw [if_neg (by omega)]
    have h9 := hK τ hq
    rw [e] at h9
    exact h9
  · rw [hC0.2.1.1, iI_eq0 (by omega)] at h9
    refine go_iload_n dX12_reads_12 rfl ?_
    refine go_i2l dX12_reads_13 ?_
    rw [i2l_iI (by omega)]
    refine go_lconst (v := 0) dX12_reads_14 (by decide) ?_
    refine go_ldc2 lX12_423 dX12_reads_15 ?_
    refine go_callS (as := [_, _, _]) wX12_217 dX12_reads_18 rfl rfl (Nat.le_of_ble_eq_true rfl) (ct_isIn2 (x := 0) (y := 60) (by decide) (by decide) (by omega) (fun hi => ?_) (fun hi => ?_))
    · refine go_if_ne (tgt := 26) dX12_reads_21 (by decide) (fun h21 => ?_) (fun h21 => ?_)
      · obtain ⟨q, rfl⟩ : ∃ q : Nat, n = q := ⟨n.toNat, by omega⟩
        refine go_aload_n dX12_reads_26 rfl ?_
        refine go_iload_n dX12_reads_27 rfl ?_
        refine go_aload_n dX12_reads_28 rfl ?_
        refine go_getR fX12_61 dX12_reads_29 rfl (hR0 _ _ _ rfl) ?_
        refine go_bipush (v := iI 21) dX12_reads_32 (by decide) ?_
        refine go_iald dX12_reads_34 rfl (vp_iI (by decide)) ?_
        rw [show (iI 21).toNatClampNeg = 21 by decide, hC0.2.2.1.1.2.1]
        refine go_callV (as := [_, _]) wX12_425 dX12_reads_35 rfl rfl rfl rfl (Nat.le_of_ble_eq_true rfl) (ct_X12_lay (n := q) (m := opn (xw X)) hR0 hK0 hC0 (by omega) hK0.w.2.2.1 (fun ρ hq2 hW => ?_))
        refine go_iconst (v := iI 0) dX12_reads_38 (by decide) ?_
        refine go_istore_n dX12_reads_39 (Nat.le_of_ble_eq_true rfl) rfl ?_
        refine go_iconst (v := iI 0) dX12_reads_40 (by decide) ?_
        refine go_istore_n dX12_reads_41 (Nat.le_of_ble_eq_true rfl) rfl ?_
        simp only [List.set]
        have e : readsA X q = (litF (xs X) (aftF X q (opn (xw X))) : Int) := by unfold readsA; rw [if_pos (by omega), Int.toNat_natCast]
        have h9 := hK ρ (hq.tr hq2)
        rw [e] at h9
        exact rd42 (hq2.RO hR0) (hC0.q hK0 hq2).2.1 hK0.s hW (aftF_ok hK0 (by omega) hK0.w.2.2.1) h9 0 (by omega)
      · exact absurd h21 (by decide)
    · refine go_if_ne (tgt := 26) dX12_reads_21 (by decide) (fun h21 => ?_) (fun h21 => ?_)
      · exact absurd h21 (by decide)
      · refine go_iconst (v := iI (-1)) dX12_reads_24 (by decide) ?_
        refine go_iret rfl rfl dX12_reads_25 ?_
        have e : readsA X n = -1 := by unfold readsA; rw [if_neg (by omega)]
        have h9 := hK τ hq
        rw [e] at h9
        exact h9

theorem ct_X11_trend {l : Launch} {D : va_G} {cA ad : Nat → Nat} {d : Nat} {σ : AS} {K : Option Value → AS → Prop} {X : XS} {p : Int} (hR : RO σ) (hK0 : XK X) (hC : CI σ X) (hp32 : -2147483648 ≤ p ∧ p < 2147483648) (hK : ∀ τ, QF σ τ → K (some (.int (iI (trendA X p)))) τ) : Call l D cA ad (d + 6) mX11_trend [.ref 0, .int (iI p)] σ K := by
  have hP7 := hK0.s.1
  have hQ9 := hK0.s.2.1
  refine call_go (by decide) (Nat.le_of_ble_eq_true rfl) (show Go l D cA ad (d + 6) mX11_trend 0 [.ref 0, .int (iI p)] [] σ K from ?_)
  refine go_aload_n dX11_trend_0 rfl ?_
  refine go_getR fX11_19 dX11_trend_1 rfl (hR _ _ _ rfl) ?_
  refine go_iload_n dX11_trend_4 rfl ?_
  refine go_callV (as := [_]) wX11_142 dX11_trend_5 rfl rfl rfl rfl (Nat.le_of_ble_eq_true rfl) (ct_hasPond2 hp32 hC.2.1 hK0.s (fun k hke hkl => ?_) (fun hkx => ?_))
  · refine go_if_ne (tgt := 14) dX11_trend_8 (by decide) (fun h8 => ?_) (fun h8 => ?_)
    · subst hke
      refine go_aload_n dX11_trend_14 rfl ?_
      refine go_getR fX11_94 dX11_trend_15 rfl (hR _ _ _ rfl) ?_
      refine go_iconst (v := iI 1) dX11_trend_18 (by decide) ?_
      refine go_aload_n dX11_trend_19 rfl ?_
      refine go_getR fX11_58 dX11_trend_20 rfl (hR _ _ _ rfl) ?_
      refine go_getI fX11_250 dX11_trend_23 rfl ?_
      rw [hC.2.2.1.2.1]
      refine go_callV (as := [_, _]) wX11_253 dX11_trend_26 rfl rfl rfl rfl (Nat.le_of_ble_eq_true rfl) (ct_X6_after (n := 1) (m := opn (xw X)) hR hK0 hC (by omega) hK0.w.2.2.1 (fun τ hq hW => ?_))
      refine go_getR fX11_149 dX11_trend_29 rfl (hq.RO hR _ _ _ rfl) ?_
      refine go_iload_n dX11_trend_32 rfl ?_
      refine go_iald dX11_trend_33 rfl (vp_iI (by omega)) ?_
      rw [cl_n _ (by omega), (hW.1 k (by omega)).1]
      refine go_aload_n dX11_trend_34 rfl ?_
      refine go_getR fX11_58 dX11_trend_35 rfl (hq.RO hR _ _ _ rfl) ?_
      refine go_getR fX11_149 dX11_trend_38 rfl (hq.RO hR _ _ _ rfl) ?_
      refine go_iload_n dX11_trend_41 rfl ?_
      refine go_iald dX11_trend_42 rfl (vp_iI (by omega)) ?_
      rw [cl_n _ (by omega), ((hC.q hK0 hq).2.2.1.1 k (by omega)).1]
      refine go_isub dX11_trend_43 ?_
      rw [iI_sub]
      refine go_iret rfl rfl dX11_trend_44 ?_
      have e : trendA X k = wa (aftF X 1 (opn (xw X))) k - wa (xw X) k := by unfold trendA; rw [if_pos (by omega), Int.toNat_natCast]
      have h9 := hK τ hq
      rw [e] at h9
      exact h9
    · exact absurd h8 (by decide)
  · refine go_if_ne (tgt := 14) dX11_trend_8 (by decide) (fun h8 => ?_) (fun h8 => ?_)
    · exact absurd h8 (by decide)
    · refine go_ldc lX11_226 dX11_trend_11 ?_
      refine go_iret rfl rfl dX11_trend_13 ?_
      have e : trendA X p = -1000000 := by unfold trendA; rw [if_neg (by omega)]
      have h9 := hK σ QF.rf
      rw [e] at h9
      exact h9

theorem ct_X12_trend {l : Launch} {D : va_G} {cA ad : Nat → Nat} {d : Nat} {σ : AS} {K : Option Value → AS → Prop} {X : XS} {p : Int} (hR : RO σ) (hK0 : XK X) (hC : MI σ X) (hp32 : -2147483648 ≤ p ∧ p < 2147483648) (hK : ∀ τ, DF (xL X) σ τ → K (some (.int (iI (trendA X p)))) τ) : Call l D cA ad (d + 37) mX12_trend [.ref 111, .int (iI p)] σ K := by
  have hP7 := hK0.s.1
  have hQ9 := hK0.s.2.1
  refine call_go (by decide) (Nat.le_of_ble_eq_true rfl) (show Go l D cA ad (d + 37) mX12_trend 0 [.ref 111, .int (iI p)] [] σ K from ?_)
  refine go_aload_n dX12_trend_0 rfl ?_
  refine go_iconst (v := iI 0) dX12_trend_1 (by decide) ?_
  refine go_putI fX12_96 rfl dX12_trend_2 rfl rfl rfl ?_
  have hq : DF (xL X) σ (sI σ 111 (upd (σ.1 111) 0 (iI 0))) := DF_f0 DF.rf
  have hR0 := hq.RO hR
  have hC0 := hC.q hK0 hq
  generalize sI σ 111 (upd (σ.1 111) 0 (iI 0)) = τ at hq hR0 hC0 ⊢
  refine go_aload_n dX12_trend_5 rfl ?_
  refine go_iload_n dX12_trend_6 rfl ?_
  refine go_callV (as := [_]) wX12_364 dX12_trend_7 rfl rfl rfl rfl (Nat.le_of_ble_eq_true rfl) (ct_isPond2 hp32 hC0.2.1 hK0.s (fun k hke hkl => ?_) (fun hkx => ?_))
  · refine go_if_ne (tgt := 17) dX12_trend_10 (by decide) (fun h10 => ?_) (fun h10 => ?_)
    · subst hke
      refine go_aload_n dX12_trend_17 rfl ?_
      refine go_iconst (v := iI 1) dX12_trend_18 (by decide) ?_
      refine go_aload_n dX12_trend_19 rfl ?_
      refine go_getR fX12_61 dX12_trend_20 rfl (hR0 _ _ _ rfl) ?_
      refine go_bipush (v := iI 21) dX12_trend_23 (by decide) ?_
      refine go_iald dX12_trend_25 rfl (vp_iI (by decide)) ?_
      rw [show (iI 21).toNatClampNeg = 21 by decide, hC0.2.2.1.1.2.1]
      refine go_callV (as := [_, _]) wX12_425 dX12_trend_26 rfl rfl rfl rfl (Nat.le_of_ble_eq_true rfl) (ct_X12_lay (n := 1) (m := opn (xw X)) hR0 hK0 hC0 (by omega) hK0.w.2.2.1 (fun ρ hq2 hW => ?_))
      refine go_aload_n dX12_trend_29 rfl ?_
      refine go_getR fX12_64 dX12_trend_30 rfl (hq2.RO hR0 _ _ _ rfl) ?_
      refine go_iload_n dX12_trend_33 rfl ?_
      refine go_callS (as := [_, _]) wX12_312 dX12_trend_34 rfl rfl (Nat.le_of_ble_eq_true rfl) (ct_X12_water rfl hW (by omega) ?_)
      refine go_aload_n dX12_trend_37 rfl ?_
      refine go_getR fX12_61 dX12_trend_38 rfl (hq2.RO hR0 _ _ _ rfl) ?_
      refine go_iload_n dX12_trend_41 rfl ?_
      refine go_callS (as := [_, _]) wX12_312 dX12_trend_42 rfl rfl (Nat.le_of_ble_eq_true rfl) (ct_X12_water (w := xw X) rfl (WM_R.mpr (hC0.q hK0 hq2).2.2.1.1) (by omega) ?_)
      refine go_isub dX12_trend_45 ?_
      rw [iI_sub]
      refine go_iret rfl rfl dX12_trend_46 ?_
      have e : trendA X k = wa (aftF X 1 (opn (xw X))) k - wa (xw X) k := by unfold trendA; rw [if_pos (by omega), Int.toNat_natCast]
      have h9 := hK ρ (hq.tr hq2)
      rw [e] at h9
      exact h9
    · exact absurd h10 (by decide)
  · refine go_if_ne (tgt := 17) dX12_trend_10 (by decide) (fun h10 => ?_) (fun h10 => ?_)
    · exact absurd h10 (by decide)
    · refine go_ldcw lX12_408 dX12_trend_13 ?_
      refine go_iret rfl rfl dX12_trend_16 ?_
      have e : trendA X p = -1000000 := by unfold trendA; rw [if_neg (by omega)]
      have h9 := hK τ hq
      rw [e] at h9
      exact h9

theorem ct_X11_eaten {l : Launch} {D : va_G} {cA ad : Nat → Nat} {d : Nat} {σ : AS} {K : Option Value → AS → Prop} {X : XS} {n : Int} (hR : RO σ) (hK0 : XK X) (hC : CI σ X) (hn32 : -2147483648 ≤ n ∧ n < 2147483648) (hK : ∀ τ, QF σ τ → K (some (.int (iI (eatenA X n)))) τ) : Call l D cA ad (d + 6) mX11_eaten [.ref 0, .int (iI n)] σ K := by
  have hP7 := hK0.s.1
  have hQ9 := hK0.s.2.1
  refine call_go (by decide) (Nat.le_of_ble_eq_true rfl) (show Go l D cA ad (d + 6) mX11_eaten 0 [.ref 0, .int (iI n)] [] σ K from ?_)
  refine go_aload_n dX11_eaten_0 rfl ?_
  refine go_getR fX11_19 dX11_eaten_1 rfl (hR _ _ _ rfl) ?_
  refine go_callV (as := []) wX11_135 dX11_eaten_4 rfl rfl rfl rfl (Nat.le_of_ble_eq_true rfl) (ct_told2 hC.2.1 hK0.s (fun hn => ?_) (fun hn => ?_))
  · refine go_if_eq (tgt := 21) dX11_eaten_7 (by decide) (fun h7 => ?_) (fun h7 => ?_)
    · exact absurd h7 (by decide)
    · refine go_iload_n dX11_eaten_10 rfl ?_
      refine go_iconst (v := iI 1) dX11_eaten_11 (by decide) ?_
      refine go_icmp_lt (tgt := 21) dX11_eaten_12 (by decide) (fun h12 => ?_) (fun h12 => ?_)
      · rw [iI_lt (by omega)] at h12
        refine go_ldc lX11_226 dX11_eaten_21 ?_
        refine go_iret rfl rfl dX11_eaten_23 ?_
        have e : eatenA X n = -1000000 := by unfold eatenA; rw [if_neg (by omega)]
        have h9 := hK σ QF.rf
        rw [e] at h9
        exact h9
      · rw [iI_lt (by omega)] at h12
        refine go_iload_n dX11_eaten_15 rfl ?_
        refine go_bipush (v := iI 60) dX11_eaten_16 (by decide) ?_
        refine go_icmp_le (tgt := 24) dX11_eaten_18 (by decide) (fun h18 => ?_) (fun h18 => ?_)
        · rw [iI_le (by omega)] at h18
          obtain ⟨q, rfl⟩ : ∃ q : Nat, n = q := ⟨n.toNat, by omega⟩
          refine go_aload_n dX11_eaten_24 rfl ?_
          refine go_getR fX11_58 dX11_eaten_25 rfl (hR _ _ _ rfl) ?_
          refine go_getR fX11_152 dX11_eaten_28 rfl (hR _ _ _ rfl) ?_
          refine go_callS (as := [_]) wX11_338 dX11_eaten_31 rfl rfl (Nat.le_of_ble_eq_true rfl) (ct_X10_sumOf (f := ca (xw X)) rfl (fun i hi => (hC.2.2.1.1 i hi).2.1) ?_)
          refine go_aload_n dX11_eaten_34 rfl ?_
          refine go_getR fX11_94 dX11_eaten_35 rfl (hR _ _ _ rfl) ?_
          refine go_iload_n dX11_eaten_38 rfl ?_
          refine go_aload_n dX11_eaten_39 rfl ?_
          refine go_getR fX11_58 dX11_eaten_40 rfl (hR _ _ _ rfl) ?_
          refine go_getI fX11_250 dX11_eaten_43 rfl ?_
          rw [hC.2.2.1.2.1]
          refine go_callV (as := [_, _]) wX11_253 dX11_eaten_46 rfl rfl rfl rfl (Nat.le_of_ble_eq_true rfl) (ct_X6_after (n := q) (m := opn (xw X)) hR hK0 hC (by omega) hK0.w.2.2.1 (fun τ hq hW => ?_))
          refine go_getR fX11_152 dX11_eaten_49 rfl (hq.RO hR _ _ _ rfl) ?_
          refine go_callS (as := [_]) wX11_338 dX11_eaten_52 rfl rfl (Nat.le_of_ble_eq_true rfl) (ct_X10_sumOf (f := ca (aftF X q (opn (xw X)))) rfl (fun i hi => (hW.1 i hi).2.1) ?_)
          refine go_isub dX11_eaten_55 ?_
          rw [iI_sub, suF_7 (fun i hi => (hK0.w.2.1 i hi).2.1) hK0.s.1, suF_7 (fun i hi => ((aftF_ok hK0 (n := q) (by omega) hK0.w.2.2.1).2.1 i hi).2.1) hK0.s.1]
          refine go_iret rfl rfl dX11_eaten_56 ?_
          have e : eatenA X q = suF (ca (xw X)) (nP (xs X)) - suF (ca (aftF X q (opn (xw X)))) (nP (xs X)) := by unfold eatenA; rw [if_pos (by omega), Int.toNat_natCast]
          have h9 := hK τ hq
          rw [e] at h9
          exact h9
        · rw [iI_le (by omega)] at h18
          refine go_ldc lX11_226 dX11_eaten_21 ?_
          refine go_iret rfl rfl dX11_eaten_23 ?_
          have e : eatenA X n = -1000000 := by unfold eatenA; rw [if_neg (by omega)]
          have h9 := hK σ QF.rf
          rw [e] at h9
          exact h9
  · refine go_if_eq (tgt := 21) dX11_eaten_7 (by decide) (fun h7 => ?_) (fun h7 => ?_)
    · refine go_ldc lX11_226 dX11_eaten_21 ?_
      refine go_iret rfl rfl dX11_eaten_23 ?_
      have e : eatenA X n = -1000000 := by unfold eatenA; rw [if_neg (by omega)]
      have h9 := hK σ QF.rf
      rw [e] at h9
      exact h9
    · exact absurd h7 (by decide)

theorem ct_X12_eaten {l : Launch} {D : va_G} {cA ad : Nat → Nat} {d : Nat} {σ : AS} {K : Option Value → AS → Prop} {X : XS} {n : Int} (hR : RO σ) (hK0 : XK X) (hC : MI σ X) (hn32 : -2147483648 ≤ n ∧ n < 2147483648) (hK : ∀ τ, DF (xL X) σ τ → K (some (.int (iI (eatenA X n)))) τ) : Call l D cA ad (d + 37) mX12_eaten [.ref 111, .int (iI n)] σ K := by
  have hP7 := hK0.s.1
  have hQ9 := hK0.s.2.1
  refine call_go (by decide) (Nat.le_of_ble_eq_true rfl) (show Go l D cA ad (d + 37) mX12_eaten 0 [.ref 111, .int (iI n)] [] σ K from ?_)
  refine go_aload_n dX12_eaten_0 rfl ?_
  refine go_iconst (v := iI 0) dX12_eaten_1 (by decide) ?_
  refine go_putI fX12_96 rfl dX12_eaten_2 rfl rfl rfl ?_
  have hq : DF (xL X) σ (sI σ 111 (upd (σ.1 111) 0 (iI 0))) := DF_f0 DF.rf
  have hR0 := hq.RO hR
  have hC0 := hC.q hK0 hq
  generalize sI σ 111 (upd (σ.1 111) 0 (iI 0)) = τ at hq hR0 hC0 ⊢
  refine go_aload_n dX12_eaten_5 rfl ?_
  refine go_getI fX12_294 dX12_eaten_6 rfl ?_
  refine go_if_eq (tgt := 24) dX12_eaten_9 (by decide) (fun h9 => ?_) (fun h9 => ?_)
  · rw [hC0.2.1.1, iI_eq0 (by omega)] at h9
    refine go_ldcw lX12_408 dX12_eaten_24 ?_
    refine go_iret rfl rfl dX12_eaten_27 ?_
    have e : eatenA X n = -1000000 := by unfold eatenA; rw [if_neg (by omega)]
    have h9 := hK τ hq
    rw [e] at h9
    exact h9
  · rw [hC0.2.1.1, iI_eq0 (by omega)] at h9
    refine go_iload_n dX12_eaten_12 rfl ?_
    refine go_i2l dX12_eaten_13 ?_
    rw [i2l_iI (by omega)]
    refine go_lconst (v := 1) dX12_eaten_14 (by decide) ?_
    refine go_ldc2 lX12_423 dX12_eaten_15 ?_
    refine go_callS (as := [_, _, _]) wX12_217 dX12_eaten_18 rfl rfl (Nat.le_of_ble_eq_true rfl) (ct_isIn2 (x := 1) (y := 60) (by decide) (by decide) (by omega) (fun hi => ?_) (fun hi => ?_))
    · refine go_if_ne (tgt := 28) dX12_eaten_21 (by decide) (fun h21 => ?_) (fun h21 => ?_)
      · obtain ⟨q, rfl⟩ : ∃ q : Nat, n = q := ⟨n.toNat, by omega⟩
        refine go_aload_n dX12_eaten_28 rfl ?_
        refine go_iload_n dX12_eaten_29 rfl ?_
        refine go_aload_n dX12_eaten_30 rfl ?_
        refine go_getR fX12_61 dX12_eaten_31 rfl (hR0 _ _ _ rfl) ?_
        refine go_bipush (v := iI 21) dX12_eaten_34 (by decide) ?_
        refine go_iald dX12_eaten_36 rfl (vp_iI (by decide)) ?_
        rw [show (iI 21).toNatClampNeg = 21 by decide, hC0.2.2.1.1.2.1]
        refine go_callV (as := [_, _]) wX12_425 dX12_eaten_37 rfl rfl rfl rfl (Nat.le_of_ble_eq_true rfl) (ct_X12_lay (n := q) (m := opn (xw X)) hR0 hK0 hC0 (by omega) hK0.w.2.2.1 (fun ρ hq2 hW => ?_))
        refine go_aload_n dX12_eaten_40 rfl ?_
        refine go_aload_n dX12_eaten_41 rfl ?_
        refine go_getR fX12_61 dX12_eaten_42 rfl (hq2.RO hR0 _ _ _ rfl) ?_
        refine go_iconst (v := iI 1) dX12_eaten_45 (by decide) ?_
        refine go_callV (as := [_, _]) wX12_357 dX12_eaten_46 rfl rfl rfl rfl (Nat.le_of_ble_eq_true rfl) (ct_X12_sumIn (k := 1) (f := ca (xw X)) (hq2.RO hR0) (hC0.q hK0 hq2).2.1 hK0.s rfl (by decide) (fun i hi => ((hC0.q hK0 hq2).2.2.1.1.1 i hi).2.1) ?_)
        refine go_aload_n dX12_eaten_49 rfl ?_
        refine go_aload_n dX12_eaten_50 rfl ?_
        refine go_getR fX12_64 dX12_eaten_51 rfl (hq2.RO hR0 _ _ _ rfl) ?_
        refine go_iconst (v := iI 1) dX12_eaten_54 (by decide) ?_
        refine go_callV (as := [_, _]) wX12_357 dX12_eaten_55 rfl rfl rfl rfl (Nat.le_of_ble_eq_true rfl) (ct_X12_sumIn (k := 1) (f := ca (aftF X q (opn (xw X)))) (hq2.RO hR0) (hC0.q hK0 hq2).2.1 hK0.s rfl (by decide) (fun i hi => (hW.1 i hi).2.1) ?_)
        refine go_isub dX12_eaten_58 ?_
        rw [iI_sub]
        refine go_iret rfl rfl dX12_eaten_59 ?_
        have e : eatenA X q = suF (ca (xw X)) (nP (xs X)) - suF (ca (aftF X q (opn (xw X)))) (nP (xs X)) := by unfold eatenA; rw [if_pos (by omega), Int.toNat_natCast]
        have h9 := hK ρ (hq.tr hq2)
        rw [e] at h9
        exact h9
      · exact absurd h21 (by decide)
    · refine go_if_ne (tgt := 28) dX12_eaten_21 (by decide) (fun h21 => ?_) (fun h21 => ?_)
      · exact absurd h21 (by decide)
      · refine go_ldcw lX12_408 dX12_eaten_24 ?_
        refine go_iret rfl rfl dX12_eaten_27 ?_
        have e : eatenA X n = -1000000 := by unfold eatenA; rw [if_neg (by omega)]
        have h9 := hK τ hq
        rw [e] at h9
        exact h9

theorem ct_X11_log {l : Launch} {D : va_G} {cA ad : Nat → Nat} {d : Nat} {σ : AS} {K : Option Value → AS → Prop} {X : XS} {i k : Int} (hR : RO σ) (hK0 : XK X) (hC : CI σ X) (hi32 : -2147483648 ≤ i ∧ i < 2147483648) (hk32 : -2147483648 ≤ k ∧ k < 2147483648) (hK : ∀ τ, QF σ τ → K (some (.int (iI (logF (xl X) (dy (xw X)) i k)))) τ) : Call l D cA ad (d + 3) mX11_log [.ref 0, .int (iI i), .int (iI k)] σ K := by
  refine call_go (by decide) (Nat.le_of_ble_eq_true rfl) (show Go l D cA ad (d + 3) mX11_log 0 [.ref 0, .int (iI i), .int (iI k)] [] σ K from ?_)
  refine go_aload_n dX11_log_0 rfl ?_
  refine go_getR fX11_65 dX11_log_1 rfl (hR _ _ _ rfl) ?_
  refine go_iload_n dX11_log_4 rfl ?_
  refine go_iload_n dX11_log_5 rfl ?_
  refine go_callV (as := [_, _]) wX11_216 dX11_log_6 rfl rfl rfl rfl (Nat.le_of_ble_eq_true rfl) (ct_X1_entry (T := dy (xw X)) (lg := xl X) hR hC.2.2.2.1.1 (by have := hK0.d; omega) hi32 hk32 (fun i k h1 h2 h3 => hC.2.2.2.1.2 (xw X) (List.mem_cons_self ..) i k h1 h2 h3) ?_)
  refine go_iret rfl rfl dX11_log_9 ?_
  exact hK σ QF.rf

theorem ct_X12_log {l : Launch} {D : va_G} {cA ad : Nat → Nat} {d : Nat} {σ : AS} {K : Option Value → AS → Prop} {X : XS} {i k : Int} (hR : RO σ) (hK0 : XK X) (hC : MI σ X) (hi32 : -2147483648 ≤ i ∧ i < 2147483648) (hk32 : -2147483648 ≤ k ∧ k < 2147483648) (hK : ∀ τ, DF (xL X) σ τ → K (some (.int (iI (logF (xl X) (dy (xw X)) i k)))) τ) : Call l D cA ad (d + 1) mX12_log [.ref 111, .int (iI i), .int (iI k)] σ K := by
  have hl := lgn_le (dy (xw X))
  have hd9 := hK0.d
  refine call_go (by decide) (Nat.le_of_ble_eq_true rfl) (show Go l D cA ad (d + 1) mX12_log 0 [.ref 111, .int (iI i), .int (iI k)] [] σ K from ?_)
  refine go_aload_n dX12_log_0 rfl ?_
  refine go_iconst (v := iI 0) dX12_log_1 (by decide) ?_
  refine go_putI fX12_96 rfl dX12_log_2 rfl rfl rfl ?_
  have hq : DF (xL X) σ (sI σ 111 (upd (σ.1 111) 0 (iI 0))) := DF_f0 DF.rf
  have hR0 := hq.RO hR
  have hC0 := hC.q hK0 hq
  generalize sI σ 111 (upd (σ.1 111) 0 (iI 0)) = τ at hq hR0 hC0 ⊢
  refine go_iload_n dX12_log_5 rfl ?_
  refine go_i2l dX12_log_6 ?_
  rw [i2l_iI (by omega)]
  refine go_lconst (v := 0) dX12_log_7 (by decide) ?_
  refine go_aload_n dX12_log_8 rfl ?_
  refine go_getR fX12_61 dX12_log_9 rfl (hR0 _ _ _ rfl) ?_
  refine go_bipush (v := iI 24) dX12_log_12 (by decide) ?_
  refine go_iald dX12_log_14 rfl (vp_iI (by decide)) ?_
  rw [show (iI 24).toNatClampNeg = 24 by decide, hC0.2.2.1.2.1]
  refine go_iconst (v := iI 1) dX12_log_15 (by decide) ?_
  refine go_isub dX12_log_16 ?_
  refine go_i2l dX12_log_17 ?_
  rw [iI_sub, i2l_iI (by omega)]
  refine go_callS (as := [_, _, _]) wX12_217 dX12_log_18 rfl rfl (Nat.le_of_ble_eq_true rfl) (ct_isIn2 (x := 0) (y := (lgn (dy (xw X)) : Int) - 1) (by decide) (lL_toInt (by omega)) (by omega) (fun hi => ?_) (fun hi => ?_))
  · refine go_if_eq (tgt := 62) dX12_log_21 (by decide) (fun h21 => ?_) (fun h21 => ?_)
    · exact absurd h21 (by decide)
    · refine go_iload_n dX12_log_24 rfl ?_
      refine go_i2l dX12_log_25 ?_
      rw [i2l_iI (by omega)]
      refine go_lconst (v := 0) dX12_log_26 (by decide) ?_
      refine go_ldc2 lX12_275 dX12_log_27 ?_
      refine go_callS (as := [_, _, _]) wX12_217 dX12_log_30 rfl rfl (Nat.le_of_ble_eq_true rfl) (ct_isIn2 (x := 0) (y := 2) (by decide) (by decide) (by omega) (fun hk => ?_) (fun hk => ?_))
      · refine go_if_eq (tgt := 62) dX12_log_33 (by decide) (fun h33 => ?_) (fun h33 => ?_)
        · exact absurd h33 (by decide)
        · refine go_aload_n dX12_log_36 rfl ?_
          refine go_getR fX12_61 dX12_log_37 rfl (hR0 _ _ _ rfl) ?_
          refine go_bipush (v := iI 25) dX12_log_40 (by decide) ?_
          refine go_iconst (v := iI 3) dX12_log_42 (by decide) ?_
          refine go_aload_n dX12_log_43 rfl ?_
          refine go_getR fX12_61 dX12_log_44 rfl (hR0 _ _ _ rfl) ?_
          refine go_bipush (v := iI 24) dX12_log_47 (by decide) ?_
          refine go_iald dX12_log_49 rfl (vp_iI (by decide)) ?_
          rw [show (iI 24).toNatClampNeg = 24 by decide, hC0.2.2.1.2.1]
          refine go_iconst (v := iI 1) dX12_log_50 (by decide) ?_
          refine go_isub dX12_log_51 ?_
          refine go_iload_n dX12_log_52 rfl ?_
          refine go_isub dX12_log_53 ?_
          refine go_imul dX12_log_54 ?_
          refine go_iadd dX12_log_55 ?_
          refine go_iload_n dX12_log_56 rfl ?_
          refine go_iadd dX12_log_57 ?_
          rw [iI_sub, iI_sub, iI_mul, iI_add, iI_add]
          refine go_iald dX12_log_58 rfl (vp_iI (by omega)) ?_
          refine go_goto (tgt := 63) dX12_log_59 (by decide) ?_
          refine go_iret rfl rfl dX12_log_63 ?_
          obtain ⟨n, rfl⟩ : ∃ n : Nat, i = n := ⟨i.toNat, by omega⟩
          obtain ⟨q, rfl⟩ : ∃ q : Nat, k = q := ⟨k.toNat, by omega⟩
          have e : logF (xl X) (dy (xw X)) n q = xl X (dy (xw X) - 1 - n) q := by unfold logF; rw [if_pos (by omega), Int.toNat_natCast, Int.toNat_natCast]
          have h9 := hK τ hq
          rw [e] at h9
          rw [iI_cl (by omega), show (25 + 3 * ((lgn (dy (xw X)) : Int) - 1 - n) + q).toNat = 25 + 3 * (dy (xw X) - 1 - n - (dy (xw X) - 60)) + q by omega, hC0.2.2.1.2.2 (dy (xw X) - 1 - n) q (by omega) (by omega) (by omega)]
          exact h9
      · refine go_if_eq (tgt := 62) dX12_log_33 (by decide) (fun h33 => ?_) (fun h33 => ?_)
        · refine go_iconst (v := iI (-1)) dX12_log_62 (by decide) ?_
          refine go_iret rfl rfl dX12_log_63 ?_
          have e : logF (xl X) (dy (xw X)) i k = -1 := by unfold logF; rw [if_neg (by omega)]
          have h9 := hK τ hq
          rw [e] at h9
          exact h9
        · exact absurd h33 (by decide)
  · refine go_if_eq (tgt := 62) dX12_log_21 (by decide) (fun h21 => ?_) (fun h21 => ?_)
    · refine go_iconst (v := iI (-1)) dX12_log_62 (by decide) ?_
      refine go_iret rfl rfl dX12_log_63 ?_
      have e : logF (xl X) (dy (xw X)) i k = -1 := by unfold logF; rw [if_neg (by omega)]
      have h9 := hK τ hq
      rw [e] at h9
      exact h9
    · exact absurd h21 (by decide)

