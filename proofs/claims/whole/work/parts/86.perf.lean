/-! the class: perform; the model's plans -/
def acS (X : XS) (x : ST) : XS := if x.1 = 0 then opX X x.2.1 else if x.1 = 1 then csX X x.2.1 else if x.1 = 2 then daysX x.2.1.toNat X else poX X x.2.1 x.2.2
theorem daysX_fx : ∀ (n : Nat) (X : XS), xp (daysX n X) = xp X ∧ xs (daysX n X) = xs X ∧ xL (daysX n X) = xL X
  | 0, _ => ⟨rfl, rfl, rfl⟩
  | n + 1, X => daysX_fx n (dayX (remX X) (skv (xs X) 0))
theorem acS_fx {X : XS} {x : ST} : xp (acS X x) = xp X ∧ xs (acS X x) = xs X ∧ xL (acS X x) = xL X := by
  unfold acS
  split
  · exact ⟨rfl, rfl, rfl⟩
  · split
    · exact ⟨rfl, rfl, rfl⟩
    · split
      · exact daysX_fx _ X
      · exact ⟨rfl, rfl, rfl⟩
theorem acS_ok {X : XS} {x : ST} (h : XK X) (hc : canSt (xs X) (xw X) x) : XK (acS X x) := by
  obtain ⟨k, a, b⟩ := x
  unfold acS
  unfold canSt at hc
  dsimp only at hc ⊢
  by_cases h0 : k = 0
  · rw [if_pos h0] at hc ⊢; exact XK_op h hc
  rw [if_neg h0] at hc ⊢
  by_cases h1 : k = 1
  · rw [if_pos h1] at hc ⊢; exact XK_cl h hc
  rw [if_neg h1] at hc ⊢
  by_cases h2 : k = 2
  · rw [if_pos h2] at hc ⊢; exact (XK_days _ X h (by omega)).1
  rw [if_neg h2] at hc ⊢
  exact XK_po h hc
def perF : List ST → XS → Nat × XS
  | [], X => (0, X)
  | x :: L, X => if canSt (xs X) (xw X) x then ((perF L (acS X x)).1 + 1, (perF L (acS X x)).2) else (0, X)
theorem perF_y {x : ST} {L : List ST} {X : XS} (h : canSt (xs X) (xw X) x) : perF (x :: L) X = ((perF L (acS X x)).1 + 1, (perF L (acS X x)).2) := if_pos h
theorem perF_n {x : ST} {L : List ST} {X : XS} (h : ¬ canSt (xs X) (xw X) x) : perF (x :: L) X = (0, X) := if_neg h
theorem perF_ok : ∀ (L : List ST) (X : XS), XK X → XK (perF L X).2
  | [], _, h => h
  | x :: L, X, h => by
    by_cases c : canSt (xs X) (xw X) x
    · rw [perF_y c]; exact perF_ok L _ (acS_ok h c)
    · rw [perF_n c]; exact h
def perX (X : XS) (a : Int) : XS := match (xp X)[a.toNat]? with
  | none => X
  | some L => if 0 ≤ a ∧ 0 < nP (xs X) then (perF L X).2 else X
def perA (X : XS) (a : Int) : Int := match (xp X)[a.toNat]? with
  | none => -1
  | some L => if 0 ≤ a ∧ 0 < nP (xs X) then ((perF L X).1 : Int) else -1
theorem per_n {X : XS} {a : Int} (h : ¬ (0 ≤ a ∧ a < (xp X).length)) : perX X a = X ∧ perA X a = -1 := by
  unfold perX perA
  cases e : (xp X)[a.toNat]? with
  | none => exact ⟨rfl, rfl⟩
  | some L => have := (List.getElem?_eq_some_iff.mp e).1; dsimp only; rw [if_neg (by omega), if_neg (by omega)]; exact ⟨rfl, rfl⟩
theorem per_m {X : XS} {n : Nat} {L : List ST} (h : (xp X)[n]? = some L) (h2 : ¬ 0 < nP (xs X)) : perX X n = X ∧ perA X n = -1 := by
  unfold perX perA
  rw [Int.toNat_natCast, h]
  dsimp only
  rw [if_neg (by omega), if_neg (by omega)]
  exact ⟨rfl, rfl⟩
theorem per_y {X : XS} {n : Nat} {L : List ST} (h : (xp X)[n]? = some L) (h2 : 0 < nP (xs X)) : perX X n = (perF L X).2 ∧ perA X n = ((perF L X).1 : Int) := by
  unfold perX perA
  rw [Int.toNat_natCast, h]
  dsimp only
  rw [if_pos (by omega), if_pos (by omega)]
  exact ⟨rfl, rfl⟩
theorem perK {X : XS} {a : Int} (h : XK X) : XK (perX X a) := by
  unfold perX
  split
  · exact h
  · split
    · exact perF_ok _ X h
    · exact h
theorem ct_actS {l : Launch} {D : va_G} {cA ad : Nat → Nat} {d : Nat} {σ : AS} {K : Option Value → AS → Prop} {X : XS} {x : ST} (hR : RO σ) (hK0 : XK X) (hC : CI σ X) (hx : stOKp x) (hK1 : canSt (xs X) (xw X) x → ∀ τ, FC σ τ → CI τ (acS X x) → K (some (.int (iI 1))) τ) (hK2 : ¬ canSt (xs X) (xw X) x → K (some (.int (iI 0))) σ) : Call l D cA ad (d + 6) mX11_act [.ref 0, .int (iI x.1), .int (iI x.2.1), .int (iI x.2.2)] σ K := by
  obtain ⟨k, a, c⟩ := x
  unfold stOKp at hx
  dsimp only at hx ⊢
  rcases (show k = 0 ∨ k = 1 ∨ k = 2 ∨ k = 3 by omega) with rfl | rfl | rfl | rfl
  · exact ct_act0 hR hK0 hC (by omega) hK1 hK2
  · exact ct_act1 hR hK0 hC (by omega) hK1 hK2
  · exact ct_act2 hR hK0 hC (by omega) hK1 hK2
  · exact ct_act3 hR hK0 hC (by omega) (by omega) hK1 hK2
theorem pf29 {l : Launch} {D : va_G} {cA ad : Nat → Nat} {d : Nat} {σ : AS} {K : Option Value → AS → Prop} {n N : Nat} {X1 : XS} {L : List ST} (hR : RO σ) (hn : n < 4) (hLk : LOK L) (hK : ∀ τ, FC σ τ → CI τ X1 → K (some (.int (iI N))) τ) : ∀ (R : List ST) (i : Nat) (Y : XS) (τ : AS), L.drop i = R → FC σ τ → CI τ Y → XK Y → (xp Y)[n]? = some L → i ≤ L.length → i + (perF R Y).1 = N → (perF R Y).2 = X1 → Go l D cA ad (d + 7) mX11_perform 29 [.ref 0, .int (iI n), .ref (67 + 4 * n), .int (iI i)] [] τ K := by
  have hl16 := hLk.1
  obtain ⟨hpb, hp66⟩ := PB_k n hn
  intro R
  induction R with
  | nil =>
    intro i Y τ hR2 hf hCY hKY hLY hi hres hres2
    have hPL := hCY.2.2.2.2.2.2.2.2.1.2 n L hLY
    have hil := drop_nil hR2 hi
    refine go_iload_n dX11_perform_29 rfl ?_
    refine go_aload_n dX11_perform_30 rfl ?_
    refine go_getI fX11_223 dX11_perform_31 hpb.1 ?_
    rw [hPL.1]
    refine go_icmp_ge (tgt := 70) dX11_perform_34 (by decide) (fun h34 => ?_) (fun h34 => ?_)
    · refine go_aload_n dX11_perform_70 rfl ?_
      refine go_getI fX11_223 dX11_perform_71 hpb.1 ?_
      rw [hPL.1]
      refine go_iret rfl rfl dX11_perform_74 ?_
      have e1 : Y = X1 := hres2
      subst e1
      rw [show (L.length : Int) = ((i + (perF [] Y).1 : Nat) : Int) by rw [show (perF [] Y).1 = 0 from rfl]; omega, hres]
      exact hK τ hf hCY
    · exfalso
      rw [iI_le (by omega)] at h34
      omega
  | cons x R ih =>
    intro i Y τ hR2 hf hCY hKY hLY hi hres hres2
    have hPL := hCY.2.2.2.2.2.2.2.2.1.2 n L hLY
    have hR1 := hf.RO hR
    have hx := drop_cons hR2
    have hil := hx.2.2
    have hxx := hPL.2 i x hx.1
    have hxk := hLk.2 x (List.mem_of_getElem? hx.1)
    refine go_iload_n dX11_perform_29 rfl ?_
    refine go_aload_n dX11_perform_30 rfl ?_
    refine go_getI fX11_223 dX11_perform_31 hpb.1 ?_
    rw [hPL.1]
    refine go_icmp_ge (tgt := 70) dX11_perform_34 (by decide) (fun h34 => ?_) (fun h34 => ?_)
    · exfalso
      rw [iI_le (by omega)] at h34
      omega
    · refine go_aload_n dX11_perform_37 rfl ?_
      refine go_aload_n dX11_perform_38 rfl ?_
      refine go_getR fX11_241 dX11_perform_39 hpb.1 (hR1 _ _ _ hpb.2.2.2.2.1) ?_
      refine go_iload_n dX11_perform_42 rfl ?_
      refine go_iald dX11_perform_43 hpb.2.1 (vp_iI (by omega)) ?_
      rw [cl_n _ (by omega), hxx.1]
      refine go_aload_n dX11_perform_44 rfl ?_
      refine go_getR fX11_244 dX11_perform_45 hpb.1 (hR1 _ _ _ hpb.2.2.2.2.2.1) ?_
      refine go_iload_n dX11_perform_48 rfl ?_
      refine go_iald dX11_perform_49 hpb.2.2.1 (vp_iI (by omega)) ?_
      rw [cl_n _ (by omega), hxx.2.1]
      refine go_aload_n dX11_perform_50 rfl ?_
      refine go_getR fX11_247 dX11_perform_51 hpb.1 (hR1 _ _ _ hpb.2.2.2.2.2.2.1) ?_
      refine go_iload_n dX11_perform_54 rfl ?_
      refine go_iald dX11_perform_55 hpb.2.2.2.1 (vp_iI (by omega)) ?_
      rw [cl_n _ (by omega), hxx.2.2]
      refine go_callV (as := [_, _, _]) wX11_184 dX11_perform_56 rfl rfl rfl rfl (Nat.le_of_ble_eq_true rfl) (ct_actS hR1 hKY hCY hxk (fun hc ρ fc hC1 => ?_) (fun hc => ?_))
      · refine go_if_ne (tgt := 64) dX11_perform_59 (by decide) (fun h59 => ?_) (fun h59 => ?_)
        · refine go_iincI dX11_perform_64 rfl (Nat.le_of_ble_eq_true rfl) rfl ?_
          refine go_goto (tgt := 29) dX11_perform_67 (by decide) ?_
          rw [perF_y hc] at hres hres2
          simp only [List.set, iI_add]
          exact ih (i + 1) _ ρ hx.2.1 (hf.tr fc) hC1 (acS_ok hKY hc) (by rw [acS_fx.1]; exact hLY) (by omega) (by rw [← hres]; omega) hres2
        · exact absurd h59 (by decide)
      · refine go_if_ne (tgt := 64) dX11_perform_59 (by decide) (fun h59 => ?_) (fun h59 => ?_)
        · exact absurd h59 (by decide)
        · refine go_iload_n dX11_perform_62 rfl ?_
          refine go_iret rfl rfl dX11_perform_63 ?_
          rw [perF_n hc] at hres hres2
          have e1 : Y = X1 := hres2
          subst e1
          rw [show (i : Int) = ((i + 0 : Nat) : Int) by omega, show i + 0 = N from hres]
          exact hK τ hf hCY
theorem ct_X11_perform {l : Launch} {D : va_G} {cA ad : Nat → Nat} {d : Nat} {σ : AS} {K : Option Value → AS → Prop} {X : XS} {a : Int} (hR : RO σ) (hK0 : XK X) (hC : CI σ X) (ha32 : -2147483648 ≤ a ∧ a < 2147483648) (hK : ∀ τ, FC σ τ → CI τ (perX X a) → K (some (.int (iI (perA X a)))) τ) : Call l D cA ad (d + 7) mX11_perform [.ref 0, .int (iI a)] σ K := by
  refine call_go (by decide) (Nat.le_of_ble_eq_true rfl) (show Go l D cA ad (d + 7) mX11_perform 0 [.ref 0, .int (iI a), .null, .null] [] σ K from ?_)
  refine go_aload_n dX11_perform_0 rfl ?_
  refine go_iload_n dX11_perform_1 rfl ?_
  refine go_callV (as := [_]) wX11_220 dX11_perform_2 rfl rfl rfl rfl (Nat.le_of_ble_eq_true rfl) (ct_X11_hasPlan hR hK0 hC ha32 (fun n L hn hL => ?_) (fun hx => ?_))
  · refine go_if_eq (tgt := 18) dX11_perform_5 (by decide) (fun h5 => ?_) (fun h5 => ?_)
    · exact absurd h5 (by decide)
    · subst hn
      have hnl := (List.getElem?_eq_some_iff.mp hL).1
      have hp4 := hK0.p.1
      obtain ⟨hpb, hp66⟩ := PB_k n (by omega)
      have hPL := hC.2.2.2.2.2.2.2.2.1.2 n L hL
      have hLk := hK0.p.2 L (List.mem_of_getElem? hL)
      have hl16 := hLk.1
      refine go_aload_n dX11_perform_8 rfl ?_
      refine go_getR fX11_19 dX11_perform_9 rfl (hR _ _ _ rfl) ?_
      refine go_callV (as := []) wX11_135 dX11_perform_12 rfl rfl rfl rfl (Nat.le_of_ble_eq_true rfl) (ct_told2 hC.2.1 hK0.s (fun ht => ?_) (fun ht => ?_))
      · refine go_if_ne (tgt := 20) dX11_perform_15 (by decide) (fun h15 => ?_) (fun h15 => ?_)
        · refine go_aload_n dX11_perform_20 rfl ?_
          refine go_getR fX11_46 dX11_perform_21 rfl (hR _ _ _ rfl) ?_
          refine go_iload_n dX11_perform_24 rfl ?_
          refine go_aald dX11_perform_25 rfl (by decide) (vp_iI (by omega)) (by rw [cl_n _ (by omega)]; exact hR _ _ _ hp66) ?_
          refine go_astore_n dX11_perform_26 (Nat.le_of_ble_eq_true rfl) rfl ?_
          refine go_iconst (v := iI 0) dX11_perform_27 (by decide) ?_
          refine go_istore_n dX11_perform_28 (Nat.le_of_ble_eq_true rfl) rfl ?_
          rw [(per_y hL ht).1, (per_y hL ht).2] at hK
          simp only [List.set]
          exact pf29 (N := (perF L X).1) (X1 := (perF L X).2) hR (by omega) hLk hK L 0 X σ rfl FC.rf hC hK0 hL (Nat.zero_le _) (Nat.zero_add _) rfl
        · exact absurd h15 (by decide)
      · refine go_if_ne (tgt := 20) dX11_perform_15 (by decide) (fun h15 => ?_) (fun h15 => ?_)
        · exact absurd h15 (by decide)
        · refine go_iconst (v := iI (-1)) dX11_perform_18 (by decide) ?_
          refine go_iret rfl rfl dX11_perform_19 ?_
          rw [(per_m hL (by omega)).1, (per_m hL (by omega)).2] at hK
          exact hK σ FC.rf hC
  · refine go_if_eq (tgt := 18) dX11_perform_5 (by decide) (fun h5 => ?_) (fun h5 => ?_)
    · refine go_iconst (v := iI (-1)) dX11_perform_18 (by decide) ?_
      refine go_iret rfl rfl dX11_perform_19 ?_
      rw [(per_n hx).1, (per_n hx).2] at hK
      exact hK σ FC.rf hC
    · exact absurd h5 (by decide)

theorem ct_X12_isPlan {l : Launch} {D : va_G} {cA ad : Nat → Nat} {d : Nat} {σ : AS} {K : Option Value → AS → Prop} {X : XS} {a : Int} (hR : RO σ) (hK0 : XK X) (hC : MI σ X) (ha32 : -2147483648 ≤ a ∧ a < 2147483648) (hK1 : ∀ (n : Nat) (L : List ST), a = n → (xp X)[n]? = some L → K (some (.int (iI 1))) σ) (hK2 : ¬ (0 ≤ a ∧ a < (xp X).length) → K (some (.int (iI 0))) σ) : Call l D cA ad d mX12_isPlan [.ref 111, .int (iI a)] σ K := by
  have hp4 := hK0.p.1
  refine call_go (by decide) (Nat.le_of_ble_eq_true rfl) (show Go l D cA ad d mX12_isPlan 0 [.ref 111, .int (iI a)] [] σ K from ?_)
  refine go_iload_n dX12_isPlan_0 rfl ?_
  refine go_if_lt (tgt := 16) dX12_isPlan_1 (by decide) (fun h1 => ?_) (fun h1 => ?_)
  · rw [iI_lt0 (by omega)] at h1
    refine go_iconst (v := iI 0) dX12_isPlan_16 (by decide) ?_
    refine go_iret rfl rfl dX12_isPlan_17 ?_
    exact hK2 (by omega)
  · rw [iI_lt0 (by omega)] at h1
    refine go_iload_n dX12_isPlan_4 rfl ?_
    refine go_aload_n dX12_isPlan_5 rfl ?_
    refine go_getI fX12_289 dX12_isPlan_6 rfl ?_
    rw [hC.2.2.2.2.2.2.2.2.2.1.1]
    refine go_icmp_ge (tgt := 16) dX12_isPlan_9 (by decide) (fun h9 => ?_) (fun h9 => ?_)
    · rw [iI_le (by omega)] at h9
      refine go_iconst (v := iI 0) dX12_isPlan_16 (by decide) ?_
      refine go_iret rfl rfl dX12_isPlan_17 ?_
      exact hK2 (by omega)
    · rw [iI_le (by omega)] at h9
      refine go_iconst (v := iI 1) dX12_isPlan_12 (by decide) ?_
      refine go_goto (tgt := 17) dX12_isPlan_13 (by decide) ?_
      refine go_iret rfl rfl dX12_isPlan_17 ?_
      exact hK1 a.toNat _ (by omega) (List.getElem?_eq_getElem (by omega))

theorem ct_X12_step {l : Launch} {D : va_G} {cA ad : Nat → Nat} {d : Nat} {σ : AS} {K : Option Value → AS → Prop} {X : XS} {a i j : Int} (hR : RO σ) (hK0 : XK X) (hC : MI σ X) (ha32 : -2147483648 ≤ a ∧ a < 2147483648) (hi32 : -2147483648 ≤ i ∧ i < 2147483648) (hj32 : -2147483648 ≤ j ∧ j < 2147483648) (hK : ∀ τ, DF (xL X) σ τ → K (some (.int (iI (stpA X a i j)))) τ) : Call l D cA ad (d + 1) mX12_step [.ref 111, .int (iI a), .int (iI i), .int (iI j)] σ K := by
  refine call_go (by decide) (Nat.le_of_ble_eq_true rfl) (show Go l D cA ad (d + 1) mX12_step 0 [.ref 111, .int (iI a), .int (iI i), .int (iI j)] [] σ K from ?_)
  refine go_aload_n dX12_step_0 rfl ?_
  refine go_iconst (v := iI 0) dX12_step_1 (by decide) ?_
  refine go_putI fX12_96 rfl dX12_step_2 rfl rfl rfl ?_
  have hq : DF (xL X) σ (sI σ 111 (upd (σ.1 111) 0 (iI 0))) := DF_f0 DF.rf
  have hR0 := hq.RO hR
  have hC0 := hC.q hK0 hq
  generalize sI σ 111 (upd (σ.1 111) 0 (iI 0)) = τ at hq hR0 hC0 ⊢
  refine go_aload_n dX12_step_5 rfl ?_
  refine go_iload_n dX12_step_6 rfl ?_
  refine go_callV (as := [_]) wX12_405 dX12_step_7 rfl rfl rfl rfl (Nat.le_of_ble_eq_true rfl) (ct_X12_isPlan hR0 hK0 hC0 ha32 (fun n L hn hL => ?_) (fun hx => ?_))
  · refine go_if_eq (tgt := 61) dX12_step_10 (by decide) (fun h10 => ?_) (fun h10 => ?_)
    · exact absurd h10 (by decide)
    · subst hn
      have hnl := (List.getElem?_eq_some_iff.mp hL).1
      have hp4 := hK0.p.1
      have hPL := hC0.2.2.2.2.2.2.2.2.2.1.2 n L hL
      have hLk := hK0.p.2 L (List.mem_of_getElem? hL)
      have hl16 := hLk.1
      refine go_iload_n dX12_step_13 rfl ?_
      refine go_i2l dX12_step_14 ?_
      rw [i2l_iI (by omega)]
      refine go_lconst (v := 0) dX12_step_15 (by decide) ?_
      refine go_aload_n dX12_step_16 rfl ?_
      refine go_getR fX12_58 dX12_step_17 rfl (hR0 _ _ _ rfl) ?_
      refine go_iload_n dX12_step_20 rfl ?_
      refine go_iald dX12_step_21 rfl (vp_iI (by omega)) ?_
      rw [cl_n _ (by omega), hPL.2]
      refine go_iconst (v := iI 1) dX12_step_22 (by decide) ?_
      refine go_isub dX12_step_23 ?_
      rw [iI_sub]
      refine go_i2l dX12_step_24 ?_
      rw [i2l_iI (by omega)]
      refine go_callS (as := [_, _, _]) wX12_217 dX12_step_25 rfl rfl (Nat.le_of_ble_eq_true rfl) (ct_isIn2 (x := 0) (y := (L.length : Int) - 1) (by decide) (lL_toInt (by omega)) hi32 (fun hi => ?_) (fun hi => ?_))
      · refine go_if_eq (tgt := 61) dX12_step_28 (by decide) (fun h28 => ?_) (fun h28 => ?_)
        · exact absurd h28 (by decide)
        · refine go_iload_n dX12_step_31 rfl ?_
          refine go_i2l dX12_step_32 ?_
          rw [i2l_iI (by omega)]
          refine go_lconst (v := 0) dX12_step_33 (by decide) ?_
          refine go_ldc2 lX12_275 dX12_step_34 ?_
          refine go_callS (as := [_, _, _]) wX12_217 dX12_step_37 rfl rfl (Nat.le_of_ble_eq_true rfl) (ct_isIn2 (x := 0) (y := 2) (by decide) (by decide) (by omega) (fun hj => ?_) (fun hj => ?_))
          · refine go_if_eq (tgt := 61) dX12_step_40 (by decide) (fun h40 => ?_) (fun h40 => ?_)
            · exact absurd h40 (by decide)
            · obtain ⟨q, rfl⟩ : ∃ q : Nat, i = q := ⟨i.toNat, by omega⟩
              obtain ⟨x, hx⟩ : ∃ x, L[q]? = some x := ⟨_, List.getElem?_eq_getElem (by omega)⟩
              obtain ⟨z, rfl⟩ : ∃ z : Nat, j = z := ⟨j.toNat, by omega⟩
              have hxx := hPL.1 q x hx
              refine go_aload_n dX12_step_43 rfl ?_
              refine go_getR fX12_55 dX12_step_44 rfl (hR0 _ _ _ rfl) ?_
              refine go_iconst (v := iI 3) dX12_step_47 (by decide) ?_
              refine go_bipush (v := iI 16) dX12_step_48 (by decide) ?_
              refine go_iload_n dX12_step_50 rfl ?_
              refine go_imul dX12_step_51 ?_
              refine go_iload_n dX12_step_52 rfl ?_
              refine go_iadd dX12_step_53 ?_
              refine go_imul dX12_step_54 ?_
              refine go_iload_n dX12_step_55 rfl ?_
              refine go_iadd dX12_step_56 ?_
              rw [iI_mul, iI_add, iI_mul, iI_add, show 3 * (16 * (n : Int) + (q : Int)) + (z : Int) = ((3 * (16 * n + q) + z : Nat) : Int) by omega]
              refine go_iald dX12_step_57 rfl (vp_iI (by omega)) ?_
              refine go_goto (tgt := 64) dX12_step_58 (by decide) ?_
              refine go_iret rfl rfl dX12_step_64 ?_
              rw [stpA_y hL hx (by omega)] at hK
              rw [cl_n _ (by omega)]
              have h9 := hK τ hq
              rcases (show z = 0 ∨ z = 1 ∨ z = 2 by omega) with rfl | rfl | rfl
              · rw [show 3 * (16 * n + q) + 0 = 3 * (16 * n + q) from rfl, hxx.1]; exact h9
              · rw [hxx.2.1]; exact h9
              · rw [hxx.2.2]; exact h9
          · refine go_if_eq (tgt := 61) dX12_step_40 (by decide) (fun h40 => ?_) (fun h40 => ?_)
            · refine go_ldcw lX12_408 dX12_step_61 ?_
              refine go_iret rfl rfl dX12_step_64 ?_
              rw [stpA_m hL (by omega)] at hK
              exact hK τ hq
            · exact absurd h40 (by decide)
      · refine go_if_eq (tgt := 61) dX12_step_28 (by decide) (fun h28 => ?_) (fun h28 => ?_)
        · refine go_ldcw lX12_408 dX12_step_61 ?_
          refine go_iret rfl rfl dX12_step_64 ?_
          rw [stpA_m hL (by omega)] at hK
          exact hK τ hq
        · exact absurd h28 (by decide)
  · refine go_if_eq (tgt := 61) dX12_step_10 (by decide) (fun h10 => ?_) (fun h10 => ?_)
    · refine go_ldcw lX12_408 dX12_step_61 ?_
      refine go_iret rfl rfl dX12_step_64 ?_
      rw [stpA_n hx] at hK
      exact hK τ hq
    · exact absurd h10 (by decide)

theorem ct_canStep0 {l : Launch} {D : va_G} {cA ad : Nat → Nat} {d : Nat} {σ : AS} {K : Option Value → AS → Prop} {s : PS} {w : WT} {c row : Nat} {a b : Int} (hR : RO σ) (hT : TwM σ s) (hS : TwK s) (hc : sh[c]? = some (1, 205)) (hW : WM σ c w) (hw : WK s w) (hr : row + 2 < 240) (ha : 0 ≤ a ∧ a ≤ 9) (hb : -1 ≤ b ∧ b ≤ 9) (h1 : σ.1 122 row = iI 0) (h2 : σ.1 122 (row + 1) = iI a) (h3 : σ.1 122 (row + 2) = iI b) (hK1 : can0 s w a → K (some (.int (iI 1))) σ) (hK0 : ¬ can0 s w a → K (some (.int (iI 0))) σ) : Call l D cA ad (d + 2) mX12_canStep [.ref 111, .ref c, .int (iI row)] σ K := by
  refine call_go (by decide) (Nat.le_of_ble_eq_true rfl) (show Go l D cA ad (d + 2) mX12_canStep 0 [.ref 111, .ref c, .int (iI row), .null] [] σ K from ?_)
  refine go_aload_n dX12_canStep_0 rfl ?_
  refine go_getR fX12_55 dX12_canStep_1 rfl (hR _ _ _ rfl) ?_
  refine go_iload_n dX12_canStep_4 rfl ?_
  refine go_iconst (v := iI 1) dX12_canStep_5 (by decide) ?_
  refine go_iadd dX12_canStep_6 ?_
  rw [iI_add, show (row : Int) + 1 = ((row + 1 : Nat) : Int) by omega]
  refine go_iald dX12_canStep_7 rfl (vp_iI (by omega)) ?_
  rw [cl_n _ (by omega), h2]
  refine go_istore_n dX12_canStep_8 (Nat.le_of_ble_eq_true rfl) rfl ?_
  refine go_aload_n dX12_canStep_9 rfl ?_
  refine go_getR fX12_55 dX12_canStep_10 rfl (hR _ _ _ rfl) ?_
  refine go_iload_n dX12_canStep_13 rfl ?_
  refine go_iald dX12_canStep_14 rfl (vp_iI (by omega)) ?_
  rw [cl_n _ (by omega), h1]
  refine go_tabIn (off := 25) (tgt := 40) dX12_canStep_15 (by decide) (by decide) (by decide) (by decide) ?_
  refine go_aload_n dX12_canStep_40 rfl ?_
  refine go_aload_n dX12_canStep_41 rfl ?_
  refine go_iload_n dX12_canStep_42 rfl ?_
  refine go_iconst (v := iI 1) dX12_canStep_43 (by decide) ?_
  refine go_callV (as := [_, _, _]) wX12_377 dX12_canStep_44 rfl rfl rfl rfl (Nat.le_of_ble_eq_true rfl) (ct_canTurn1 hR hT hS hc hW hw (by omega) (fun h => ?_) (fun h => ?_))
  · refine go_iret rfl rfl dX12_canStep_47 ?_
    exact hK1 h
  · refine go_iret rfl rfl dX12_canStep_47 ?_
    exact hK0 h

theorem ct_canStep1 {l : Launch} {D : va_G} {cA ad : Nat → Nat} {d : Nat} {σ : AS} {K : Option Value → AS → Prop} {s : PS} {w : WT} {c row : Nat} {a b : Int} (hR : RO σ) (hT : TwM σ s) (hS : TwK s) (hc : sh[c]? = some (1, 205)) (hW : WM σ c w) (hw : WK s w) (hr : row + 2 < 240) (ha : 0 ≤ a ∧ a ≤ 9) (hb : -1 ≤ b ∧ b ≤ 9) (h1 : σ.1 122 row = iI 1) (h2 : σ.1 122 (row + 1) = iI a) (h3 : σ.1 122 (row + 2) = iI b) (hK1 : can1 s w a → K (some (.int (iI 1))) σ) (hK0 : ¬ can1 s w a → K (some (.int (iI 0))) σ) : Call l D cA ad (d + 2) mX12_canStep [.ref 111, .ref c, .int (iI row)] σ K := by
  refine call_go (by decide) (Nat.le_of_ble_eq_true rfl) (show Go l D cA ad (d + 2) mX12_canStep 0 [.ref 111, .ref c, .int (iI row), .null] [] σ K from ?_)
  refine go_aload_n dX12_canStep_0 rfl ?_
  refine go_getR fX12_55 dX12_canStep_1 rfl (hR _ _ _ rfl) ?_
  refine go_iload_n dX12_canStep_4 rfl ?_
  refine go_iconst (v := iI 1) dX12_canStep_5 (by decide) ?_
  refine go_iadd dX12_canStep_6 ?_
  rw [iI_add, show (row : Int) + 1 = ((row + 1 : Nat) : Int) by omega]
  refine go_iald dX12_canStep_7 rfl (vp_iI (by omega)) ?_
  rw [cl_n _ (by omega), h2]
  refine go_istore_n dX12_canStep_8 (Nat.le_of_ble_eq_true rfl) rfl ?_
  refine go_aload_n dX12_canStep_9 rfl ?_
  refine go_getR fX12_55 dX12_canStep_10 rfl (hR _ _ _ rfl) ?_
  refine go_iload_n dX12_canStep_13 rfl ?_
  refine go_iald dX12_canStep_14 rfl (vp_iI (by omega)) ?_
  rw [cl_n _ (by omega), h1]
  refine go_tabIn (off := 33) (tgt := 48) dX12_canStep_15 (by decide) (by decide) (by decide) (by decide) ?_
  refine go_aload_n dX12_canStep_48 rfl ?_
  refine go_aload_n dX12_canStep_49 rfl ?_
  refine go_iload_n dX12_canStep_50 rfl ?_
  refine go_iconst (v := iI 0) dX12_canStep_51 (by decide) ?_
  refine go_callV (as := [_, _, _]) wX12_377 dX12_canStep_52 rfl rfl rfl rfl (Nat.le_of_ble_eq_true rfl) (ct_canTurn0 hR hT hS hc hW hw (by omega) (fun h => ?_) (fun h => ?_))
  · refine go_iret rfl rfl dX12_canStep_55 ?_
    exact hK1 h
  · refine go_iret rfl rfl dX12_canStep_55 ?_
    exact hK0 h

theorem ct_canStep2 {l : Launch} {D : va_G} {cA ad : Nat → Nat} {d : Nat} {σ : AS} {K : Option Value → AS → Prop} {s : PS} {w : WT} {c row : Nat} {a b : Int} (hR : RO σ) (hT : TwM σ s) (hS : TwK s) (hc : sh[c]? = some (1, 205)) (hW : WM σ c w) (hw : WK s w) (hr : row + 2 < 240) (ha : 0 ≤ a ∧ a ≤ 9) (hb : -1 ≤ b ∧ b ≤ 9) (h1 : σ.1 122 row = iI 2) (h2 : σ.1 122 (row + 1) = iI a) (h3 : σ.1 122 (row + 2) = iI b) (hK1 : can2 s w a → K (some (.int (iI 1))) σ) (hK0 : ¬ can2 s w a → K (some (.int (iI 0))) σ) : Call l D cA ad (d + 2) mX12_canStep [.ref 111, .ref c, .int (iI row)] σ K := by
  refine call_go (by decide) (Nat.le_of_ble_eq_true rfl) (show Go l D cA ad (d + 2) mX12_canStep 0 [.ref 111, .ref c, .int (iI row), .null] [] σ K from ?_)
  refine go_aload_n dX12_canStep_0 rfl ?_
  refine go_getR fX12_55 dX12_canStep_1 rfl (hR _ _ _ rfl) ?_
  refine go_iload_n dX12_canStep_4 rfl ?_
  refine go_iconst (v := iI 1) dX12_canStep_5 (by decide) ?_
  refine go_iadd dX12_canStep_6 ?_
  rw [iI_add, show (row : Int) + 1 = ((row + 1 : Nat) : Int) by omega]
  refine go_iald dX12_canStep_7 rfl (vp_iI (by omega)) ?_
  rw [cl_n _ (by omega), h2]
  refine go_istore_n dX12_canStep_8 (Nat.le_of_ble_eq_true rfl) rfl ?_
  refine go_aload_n dX12_canStep_9 rfl ?_
  refine go_getR fX12_55 dX12_canStep_10 rfl (hR _ _ _ rfl) ?_
  refine go_iload_n dX12_canStep_13 rfl ?_
  refine go_iald dX12_canStep_14 rfl (vp_iI (by omega)) ?_
  rw [cl_n _ (by omega), h1]
  refine go_tabIn (off := 41) (tgt := 56) dX12_canStep_15 (by decide) (by decide) (by decide) (by decide) ?_
  refine go_aload_n dX12_canStep_56 rfl ?_
  refine go_aload_n dX12_canStep_57 rfl ?_
  refine go_iload_n dX12_canStep_58 rfl ?_
  refine go_bipush (v := iI 9) dX12_canStep_59 (by decide) ?_
  refine go_callV (as := [_, _, _]) wX12_388 dX12_canStep_61 rfl rfl rfl rfl (Nat.le_of_ble_eq_true rfl) (ct_X12_mayPass hR hT hS hc hW hw (by omega) (by decide) (fun h => ?_) (fun h => ?_))
  · refine go_iret rfl rfl dX12_canStep_64 ?_
    exact hK1 h.2
  · refine go_iret rfl rfl dX12_canStep_64 ?_
    exact hK0 (fun q => h ⟨by omega, q⟩)

theorem ct_canStep3 {l : Launch} {D : va_G} {cA ad : Nat → Nat} {d : Nat} {σ : AS} {K : Option Value → AS → Prop} {s : PS} {w : WT} {c row : Nat} {a b : Int} (hR : RO σ) (hT : TwM σ s) (hS : TwK s) (hc : sh[c]? = some (1, 205)) (hW : WM σ c w) (hw : WK s w) (hr : row + 2 < 240) (ha : 0 ≤ a ∧ a ≤ 9) (hb : -1 ≤ b ∧ b ≤ 9) (h1 : σ.1 122 row = iI 3) (h2 : σ.1 122 (row + 1) = iI a) (h3 : σ.1 122 (row + 2) = iI b) (hK1 : can3 s w a b → K (some (.int (iI 1))) σ) (hK0 : ¬ can3 s w a b → K (some (.int (iI 0))) σ) : Call l D cA ad (d + 2) mX12_canStep [.ref 111, .ref c, .int (iI row)] σ K := by
  refine call_go (by decide) (Nat.le_of_ble_eq_true rfl) (show Go l D cA ad (d + 2) mX12_canStep 0 [.ref 111, .ref c, .int (iI row), .null] [] σ K from ?_)
  refine go_aload_n dX12_canStep_0 rfl ?_
  refine go_getR fX12_55 dX12_canStep_1 rfl (hR _ _ _ rfl) ?_
  refine go_iload_n dX12_canStep_4 rfl ?_
  refine go_iconst (v := iI 1) dX12_canStep_5 (by decide) ?_
  refine go_iadd dX12_canStep_6 ?_
  rw [iI_add, show (row : Int) + 1 = ((row + 1 : Nat) : Int) by omega]
  refine go_iald dX12_canStep_7 rfl (vp_iI (by omega)) ?_
  rw [cl_n _ (by omega), h2]
  refine go_istore_n dX12_canStep_8 (Nat.le_of_ble_eq_true rfl) rfl ?_
  refine go_aload_n dX12_canStep_9 rfl ?_
  refine go_getR fX12_55 dX12_canStep_10 rfl (hR _ _ _ rfl) ?_
  refine go_iload_n dX12_canStep_13 rfl ?_
  refine go_iald dX12_canStep_14 rfl (vp_iI (by omega)) ?_
  rw [cl_n _ (by omega), h1]
  refine go_tabOut (tgt := 65) dX12_canStep_15 (by decide) (by decide) ?_
  refine go_aload_n dX12_canStep_65 rfl ?_
  refine go_aload_n dX12_canStep_66 rfl ?_
  refine go_iload_n dX12_canStep_67 rfl ?_
  refine go_aload_n dX12_canStep_68 rfl ?_
  refine go_getR fX12_55 dX12_canStep_69 rfl (hR _ _ _ rfl) ?_
  refine go_iload_n dX12_canStep_72 rfl ?_
  refine go_iconst (v := iI 2) dX12_canStep_73 (by decide) ?_
  refine go_iadd dX12_canStep_74 ?_
  rw [iI_add, show (row : Int) + 2 = ((row + 2 : Nat) : Int) by omega]
  refine go_iald dX12_canStep_75 rfl (vp_iI (by omega)) ?_
  rw [cl_n _ (by omega), h3]
  refine go_callV (as := [_, _, _]) wX12_384 dX12_canStep_76 rfl rfl rfl rfl (Nat.le_of_ble_eq_true rfl) (ct_X12_canPour hR hT hS hc hW hw (by omega) (by omega) (fun h => ?_) (fun h => ?_))
  · refine go_iret rfl rfl dX12_canStep_79 ?_
    exact hK1 h.2
  · refine go_iret rfl rfl dX12_canStep_79 ?_
    exact hK0 (fun q => h ⟨by omega, q⟩)

theorem ct_canStepS {l : Launch} {D : va_G} {cA ad : Nat → Nat} {d : Nat} {σ : AS} {K : Option Value → AS → Prop} {s : PS} {w : WT} {c row : Nat} {x : ST} (hR : RO σ) (hT : TwM σ s) (hS : TwK s) (hc : sh[c]? = some (1, 205)) (hW : WM σ c w) (hw : WK s w) (hr : row + 2 < 240) (hx : stOKp x) (h : σ.1 122 row = iI x.1 ∧ σ.1 122 (row + 1) = iI x.2.1 ∧ σ.1 122 (row + 2) = iI x.2.2) (hK1 : canSt s w x → K (some (.int (iI 1))) σ) (hK0 : ¬ canSt s w x → K (some (.int (iI 0))) σ) : Call l D cA ad (d + 2) mX12_canStep [.ref 111, .ref c, .int (iI row)] σ K := by
  obtain ⟨k, a, b⟩ := x
  unfold stOKp at hx
  dsimp only at hx h
  rcases (show k = 0 ∨ k = 1 ∨ k = 2 ∨ k = 3 by omega) with rfl | rfl | rfl | rfl
  · exact ct_canStep0 hR hT hS hc hW hw hr (by omega) (by omega) h.1 h.2.1 h.2.2 hK1 hK0
  · exact ct_canStep1 hR hT hS hc hW hw hr (by omega) (by omega) h.1 h.2.1 h.2.2 hK1 hK0
  · exact ct_canStep2 hR hT hS hc hW hw hr (by omega) (by omega) h.1 h.2.1 h.2.2 hK1 hK0
  · exact ct_canStep3 hR hT hS hc hW hw hr (by omega) (by omega) h.1 h.2.1 h.2.2 hK1 hK0
theorem ct_steps0 {l : Launch} {D : va_G} {cA ad : Nat → Nat} {d : Nat} {σ : AS} {K : Option Value → AS → Prop} {w : WT} {c row n : Nat} {b : Int} (hR : RO σ) (hc : sh[c]? = some (1, 205)) (hW : WM σ c w) (hr : row + 2 < 240) (hn : n < 9) (hm : opn w < 512) (hbit : opn w / 2 ^ n % 2 = 0) (h1 : σ.1 122 row = iI 0) (h2 : σ.1 122 (row + 1) = iI (n : Nat)) (h3 : σ.1 122 (row + 2) = iI b) (hK : ∀ r, WR r (setO w (opn w ||| 2 ^ n)) → (∀ j, 24 ≤ j → r j = σ.1 c j) → K none (sI σ c r)) : Call l D cA ad d mX12_steps [.ref 111, .ref c, .int (iI row)] σ K := by
  refine call_go (by decide) (Nat.le_of_ble_eq_true rfl) (show Go l D cA ad d mX12_steps 0 [.ref 111, .ref c, .int (iI row), .null, .null] [] σ K from ?_)
  refine go_aload_n dX12_steps_0 rfl ?_
  refine go_getR fX12_55 dX12_steps_1 rfl (hR _ _ _ rfl) ?_
  refine go_iload_n dX12_steps_4 rfl ?_
  refine go_iconst (v := iI 1) dX12_steps_5 (by decide) ?_
  refine go_iadd dX12_steps_6 ?_
  rw [iI_add, show (row : Int) + 1 = ((row + 1 : Nat) : Int) by omega]
  refine go_iald dX12_steps_7 rfl (vp_iI (by omega)) ?_
  rw [cl_n _ (by omega), h2]
  refine go_istore_n dX12_steps_8 (Nat.le_of_ble_eq_true rfl) rfl ?_
  refine go_aload_n dX12_steps_9 rfl ?_
  refine go_getR fX12_55 dX12_steps_10 rfl (hR _ _ _ rfl) ?_
  refine go_iload_n dX12_steps_13 rfl ?_
  refine go_iald dX12_steps_14 rfl (vp_iI (by omega)) ?_
  rw [cl_n _ (by omega), h1]
  refine go_look (off := 75) (tgt := 90) dX12_steps_15 (by decide) (by decide) (by decide) ?_
  refine go_aload_n dX12_steps_90 rfl ?_
  refine go_bipush (v := iI 21) dX12_steps_91 (by decide) ?_
  refine go_dup2 dX12_steps_93 rfl rfl ?_
  refine go_iald dX12_steps_94 hc (vp_iI (by decide)) ?_
  rw [show (iI 21).toNatClampNeg = 21 by decide]
  rw [hW.2.1]
  refine go_iconst (v := iI 1) dX12_steps_95 (by decide) ?_
  refine go_iload_n dX12_steps_96 rfl ?_
  refine go_ishl dX12_steps_97 ?_
  refine go_ixor dX12_steps_98 ?_
  rw [b_xor _ hm n (by omega)]
  rw [xor_or _ hm n (by omega) hbit]
  refine go_iast dX12_steps_99 hc (vp_iI (by decide)) ?_
  rw [show (iI 21).toNatClampNeg = 21 by decide]
  refine go_vret rfl dX12_steps_100 ?_
  exact hK _ (WR_o hW) (fun j hj => upd_ne _ _ _ _ (by omega))

theorem ct_steps1 {l : Launch} {D : va_G} {cA ad : Nat → Nat} {d : Nat} {σ : AS} {K : Option Value → AS → Prop} {w : WT} {c row n : Nat} {b : Int} (hR : RO σ) (hc : sh[c]? = some (1, 205)) (hW : WM σ c w) (hr : row + 2 < 240) (hn : n < 9) (hm : opn w < 512) (hbit : opn w / 2 ^ n % 2 = 1) (h1 : σ.1 122 row = iI 1) (h2 : σ.1 122 (row + 1) = iI (n : Nat)) (h3 : σ.1 122 (row + 2) = iI b) (hK : ∀ r, WR r (setO w (clrB (opn w) n)) → (∀ j, 24 ≤ j → r j = σ.1 c j) → K none (sI σ c r)) : Call l D cA ad d mX12_steps [.ref 111, .ref c, .int (iI row)] σ K := by
  refine call_go (by decide) (Nat.le_of_ble_eq_true rfl) (show Go l D cA ad d mX12_steps 0 [.ref 111, .ref c, .int (iI row), .null, .null] [] σ K from ?_)
  refine go_aload_n dX12_steps_0 rfl ?_
  refine go_getR fX12_55 dX12_steps_1 rfl (hR _ _ _ rfl) ?_
  refine go_iload_n dX12_steps_4 rfl ?_
  refine go_iconst (v := iI 1) dX12_steps_5 (by decide) ?_
  refine go_iadd dX12_steps_6 ?_
  rw [iI_add, show (row : Int) + 1 = ((row + 1 : Nat) : Int) by omega]
  refine go_iald dX12_steps_7 rfl (vp_iI (by omega)) ?_
  rw [cl_n _ (by omega), h2]
  refine go_istore_n dX12_steps_8 (Nat.le_of_ble_eq_true rfl) rfl ?_
  refine go_aload_n dX12_steps_9 rfl ?_
  refine go_getR fX12_55 dX12_steps_10 rfl (hR _ _ _ rfl) ?_
  refine go_iload_n dX12_steps_13 rfl ?_
  refine go_iald dX12_steps_14 rfl (vp_iI (by omega)) ?_
  rw [cl_n _ (by omega), h1]
  refine go_look (off := 75) (tgt := 90) dX12_steps_15 (by decide) (by decide) (by decide) ?_
  refine go_aload_n dX12_steps_90 rfl ?_
  refine go_bipush (v := iI 21) dX12_steps_91 (by decide) ?_
  refine go_dup2 dX12_steps_93 rfl rfl ?_
  refine go_iald dX12_steps_94 hc (vp_iI (by decide)) ?_
  rw [show (iI 21).toNatClampNeg = 21 by decide]
  rw [hW.2.1]
  refine go_iconst (v := iI 1) dX12_steps_95 (by decide) ?_
  refine go_iload_n dX12_steps_96 rfl ?_
  refine go_ishl dX12_steps_97 ?_
  refine go_ixor dX12_steps_98 ?_
  rw [b_xor _ hm n (by omega)]
  rw [xor_cl _ hm n (by omega) hbit]
  refine go_iast dX12_steps_99 hc (vp_iI (by decide)) ?_
  rw [show (iI 21).toNatClampNeg = 21 by decide]
  refine go_vret rfl dX12_steps_100 ?_
  exact hK _ (WR_o hW) (fun j hj => upd_ne _ _ _ _ (by omega))

theorem ct_steps3 {l : Launch} {D : va_G} {cA ad : Nat → Nat} {d : Nat} {σ : AS} {K : Option Value → AS → Prop} {w : WT} {c row n : Nat} {b : Int} (hR : RO σ) (hc : sh[c]? = some (1, 205)) (hW : WM σ c w) (hr : row + 2 < 240) (hn : n < 7) (h1 : σ.1 122 row = iI 3) (h2 : σ.1 122 (row + 1) = iI (n : Nat)) (h3 : σ.1 122 (row + 2) = iI b) (hK : ∀ r, WR r (pourF w n b) → (∀ j, 24 ≤ j → r j = σ.1 c j) → K none (sI σ c r)) : Call l D cA ad d mX12_steps [.ref 111, .ref c, .int (iI row)] σ K := by
  refine call_go (by decide) (Nat.le_of_ble_eq_true rfl) (show Go l D cA ad d mX12_steps 0 [.ref 111, .ref c, .int (iI row), .null, .null] [] σ K from ?_)
  refine go_aload_n dX12_steps_0 rfl ?_
  refine go_getR fX12_55 dX12_steps_1 rfl (hR _ _ _ rfl) ?_
  refine go_iload_n dX12_steps_4 rfl ?_
  refine go_iconst (v := iI 1) dX12_steps_5 (by decide) ?_
  refine go_iadd dX12_steps_6 ?_
  rw [iI_add, show (row : Int) + 1 = ((row + 1 : Nat) : Int) by omega]
  refine go_iald dX12_steps_7 rfl (vp_iI (by omega)) ?_
  rw [cl_n _ (by omega), h2]
  refine go_istore_n dX12_steps_8 (Nat.le_of_ble_eq_true rfl) rfl ?_
  refine go_aload_n dX12_steps_9 rfl ?_
  refine go_getR fX12_55 dX12_steps_10 rfl (hR _ _ _ rfl) ?_
  refine go_iload_n dX12_steps_13 rfl ?_
  refine go_iald dX12_steps_14 rfl (vp_iI (by omega)) ?_
  rw [cl_n _ (by omega), h1]
  refine go_look (off := 54) (tgt := 69) dX12_steps_15 (by decide) (by decide) (by decide) ?_
  refine go_aload_n dX12_steps_69 rfl ?_
  refine go_iconst (v := iI 3) dX12_steps_70 (by decide) ?_
  refine go_iload_n dX12_steps_71 rfl ?_
  refine go_imul dX12_steps_72 ?_
  refine go_iconst (v := iI 0) dX12_steps_73 (by decide) ?_
  refine go_iadd dX12_steps_74 ?_
  rw [iI_mul, iI_add, show 3 * (n : Int) + 0 = ((3 * n : Nat) : Int) by omega]
  refine go_dup2 dX12_steps_75 rfl rfl ?_
  refine go_iald dX12_steps_76 hc (vp_iI (by omega)) ?_
  rw [cl_n _ (by omega)]
  rw [(hW.1 n (by omega)).1]
  refine go_aload_n dX12_steps_77 rfl ?_
  refine go_getR fX12_55 dX12_steps_78 rfl (hR _ _ _ rfl) ?_
  refine go_iload_n dX12_steps_81 rfl ?_
  refine go_iconst (v := iI 2) dX12_steps_82 (by decide) ?_
  refine go_iadd dX12_steps_83 ?_
  rw [iI_add, show (row : Int) + 2 = ((row + 2 : Nat) : Int) by omega]
  refine go_iald dX12_steps_84 rfl (vp_iI (by omega)) ?_
  rw [cl_n _ (by omega), h3]
  refine go_iadd dX12_steps_85 ?_
  rw [iI_add]
  refine go_iast dX12_steps_86 hc (vp_iI (by omega)) ?_
  rw [cl_n _ (by omega)]
  refine go_goto (tgt := 100) dX12_steps_87 (by decide) ?_
  refine go_vret rfl dX12_steps_100 ?_
  exact hK _ (WR_p0 (by omega) hW) (fun j hj => upd_ne _ _ _ _ (by omega))

theorem ct_stepsH {l : Launch} {D : va_G} {cA ad : Nat → Nat} {d : Nat} {σ : AS} {K : Option Value → AS → Prop} {s : PS} {w : WT} {c row : Nat} {x : ST} (hR : RO σ) (hS : TwK s) (hc : sh[c]? = some (1, 205)) (hW : WM σ c w) (hw : WK s w) (hr : row + 2 < 240) (hx : stOKp x) (h : σ.1 122 row = iI x.1 ∧ σ.1 122 (row + 1) = iI x.2.1 ∧ σ.1 122 (row + 2) = iI x.2.2) (hcan : canSt s w x) (h2 : x.1 ≠ 2) (hK : ∀ r, WR r (tkW w x) → (∀ j, 24 ≤ j → r j = σ.1 c j) → K none (sI σ c r)) : Call l D cA ad d mX12_steps [.ref 111, .ref c, .int (iI row)] σ K := by
  obtain ⟨k, a, b⟩ := x
  have hP7 := hS.1
  have hQ9 := hS.2.1
  unfold stOKp at hx
  dsimp only at hx h h2
  obtain ⟨n, rfl⟩ : ∃ n : Nat, a = n := ⟨a.toNat, by omega⟩
  rcases (show k = 0 ∨ k = 1 ∨ k = 3 by omega) with rfl | rfl | rfl
  · have q := canSt_0.mp hcan
    exact ct_steps0 hR hc hW hr (by have := q.2.1; omega) (pw512 hS hw) (bitb_f.mp q.2.2) h.1 h.2.1 h.2.2 hK
  · have q := canSt_1.mp hcan
    exact ct_steps1 hR hc hW hr (by have := q.2.1; omega) (pw512 hS hw) (bitb_t.mp q.2.2) h.1 h.2.1 h.2.2 hK
  · have q := canSt_3.mp hcan
    exact ct_steps3 hR hc hW hr (by have := q.2.1; omega) h.1 h.2.1 h.2.2 hK
