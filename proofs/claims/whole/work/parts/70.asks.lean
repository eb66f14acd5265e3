theorem wl4 {l : Launch} {D : va_G} {cA ad : Nat → Nat} {d : Nat} {σ : AS} {K : Option Value → AS → Prop} {s : PS} {w : WT} (hR : RO σ) (hT : TwC σ s) (hS : TwK s) (hW : WC σ 87 w) (hw : WK s w) (h0 : 0 < nP s) (hK : K (some (.int (iI (btF (wlP s w) (nP s - 1) : Nat)))) σ) : ∀ i : Nat, i ≤ nP s - 1 → Go l D cA ad (d + 1) mX6_wallsThatGive 4 [.ref 105, .int (iI (btF (wlP s w) i : Nat)), .int (iI i)] [] σ K := by
  have hP7 := hS.1
  refine up_loop ?_ (fun i hi ih => ?_)
  · refine go_iload_n dX6_wallsThatGive_4 rfl ?_
    refine go_iconst (v := iI 1) dX6_wallsThatGive_5 (by decide) ?_
    refine go_iadd dX6_wallsThatGive_6 ?_
    refine go_aload_n dX6_wallsThatGive_7 rfl ?_
    refine go_getR fX6_22 dX6_wallsThatGive_8 rfl (hR _ _ _ rfl) ?_
    refine go_getI fX6_119 dX6_wallsThatGive_11 rfl ?_
    refine go_icmp_ge (tgt := 67) dX6_wallsThatGive_14 (by decide) (fun h14 => ?_) (fun h14 => ?_)
    · refine go_iload_n dX6_wallsThatGive_67 rfl ?_
      refine go_iret rfl rfl dX6_wallsThatGive_68 ?_
      exact hK
    · exfalso
      rw [hT.1, iI_add, iI_le (by omega)] at h14
      omega
  · refine go_iload_n dX6_wallsThatGive_4 rfl ?_
    refine go_iconst (v := iI 1) dX6_wallsThatGive_5 (by decide) ?_
    refine go_iadd dX6_wallsThatGive_6 ?_
    refine go_aload_n dX6_wallsThatGive_7 rfl ?_
    refine go_getR fX6_22 dX6_wallsThatGive_8 rfl (hR _ _ _ rfl) ?_
    refine go_getI fX6_119 dX6_wallsThatGive_11 rfl ?_
    refine go_icmp_ge (tgt := 67) dX6_wallsThatGive_14 (by decide) (fun h14 => ?_) (fun h14 => ?_)
    · exfalso
      rw [hT.1, iI_add, iI_le (by omega)] at h14
      omega
    · have hbl := btF_512 (wlP s w) i (by omega)
      have h7 := wk7 hS hw i
      have h8 := wk7 hS hw (i + 1)
      have hpi := hS.2.2.2.1 i (by omega)
      unfold PdK at hpi
      have hab := ab_or (wa w i - wa w (i + 1))
      refine go_aload_n dX6_wallsThatGive_17 rfl ?_
      refine go_getR fX6_30 dX6_wallsThatGive_18 rfl (hR _ _ _ rfl) ?_
      refine go_getR fX6_73 dX6_wallsThatGive_21 rfl (hR _ _ _ rfl) ?_
      refine go_iload_n dX6_wallsThatGive_24 rfl ?_
      refine go_iald dX6_wallsThatGive_25 rfl (vp_iI (by omega)) ?_
      rw [cl_n _ (by omega), (hW.1 i (by omega)).1]
      refine go_aload_n dX6_wallsThatGive_26 rfl ?_
      refine go_getR fX6_30 dX6_wallsThatGive_27 rfl (hR _ _ _ rfl) ?_
      refine go_getR fX6_73 dX6_wallsThatGive_30 rfl (hR _ _ _ rfl) ?_
      refine go_iload_n dX6_wallsThatGive_33 rfl ?_
      refine go_iconst (v := iI 1) dX6_wallsThatGive_34 (by decide) ?_
      refine go_iadd dX6_wallsThatGive_35 ?_
      refine go_iald dX6_wallsThatGive_36 rfl (by rw [iI_add]; exact vp_iI (by omega)) ?_
      rw [iI_add, show (i : Int) + 1 = ((i + 1 : Nat) : Int) by omega, cl_n _ (by omega), (hW.1 (i + 1) (by omega)).1]
      refine go_isub dX6_wallsThatGive_37 ?_
      rw [iI_sub]
      refine go_abs wX6_149 dX6_wallsThatGive_38 (Nat.le_of_ble_eq_true rfl) ?_
      rw [iI_ab (by omega)]
      refine go_aload_n dX6_wallsThatGive_41 rfl ?_
      refine go_getR fX6_22 dX6_wallsThatGive_42 rfl (hR _ _ _ rfl) ?_
      refine go_getR fX6_69 dX6_wallsThatGive_45 rfl (hR _ _ _ rfl) ?_
      refine go_iload_n dX6_wallsThatGive_48 rfl ?_
      refine go_aald dX6_wallsThatGive_49 rfl (by decide) (vp_iI (by omega)) (by rw [cl_n _ (by omega)]; exact hR _ _ _ (r25 _ (by omega)).2.2.1) ?_
      refine go_iconst (v := iI 5) dX6_wallsThatGive_50 (by decide) ?_
      refine go_iald dX6_wallsThatGive_51 (r25 i (by omega)).2.2.2 (vp_iI (by decide)) ?_
      rw [cl_5, hT.2.2.2.1 i 5 (by omega) (by decide)]
      refine go_icmp_le (tgt := 61) dX6_wallsThatGive_52 (by decide) (fun h52 => ?_) (fun h52 => ?_)
      · rw [iI_le (by omega)] at h52
        rw [btF_f (by unfold wlP; exact decide_eq_false (by omega))] at ih
        refine go_iincI dX6_wallsThatGive_61 rfl (Nat.le_of_ble_eq_true rfl) rfl ?_
        refine go_goto (tgt := 4) dX6_wallsThatGive_64 (by decide) ?_
        simp only [List.set, iI_add]
        exact ih
      · rw [iI_le (by omega)] at h52
        refine go_iload_n dX6_wallsThatGive_55 rfl ?_
        refine go_iconst (v := iI 1) dX6_wallsThatGive_56 (by decide) ?_
        refine go_iload_n dX6_wallsThatGive_57 rfl ?_
        refine go_ishl dX6_wallsThatGive_58 ?_
        refine go_ior dX6_wallsThatGive_59 ?_
        rw [b_or _ hbl i (by omega)]
        rw [btF_t (by unfold wlP; exact decide_eq_true (by omega))] at ih
        refine go_istore_n dX6_wallsThatGive_60 (Nat.le_of_ble_eq_true rfl) rfl ?_
        refine go_iincI dX6_wallsThatGive_61 rfl (Nat.le_of_ble_eq_true rfl) rfl ?_
        refine go_goto (tgt := 4) dX6_wallsThatGive_64 (by decide) ?_
        simp only [List.set, iI_add]
        exact ih

theorem ct_X6_wallsThatGive {l : Launch} {D : va_G} {cA ad : Nat → Nat} {d : Nat} {σ : AS} {K : Option Value → AS → Prop} {s : PS} {w : WT} (hR : RO σ) (hT : TwC σ s) (hS : TwK s) (hW : WC σ 87 w) (hw : WK s w) (h0 : 0 < nP s) (hK : K (some (.int (iI (btF (wlP s w) (nP s - 1) : Nat)))) σ) : Call l D cA ad (d + 1) mX6_wallsThatGive [.ref 105] σ K := by
  refine call_go (by decide) (Nat.le_of_ble_eq_true rfl) (show Go l D cA ad (d + 1) mX6_wallsThatGive 0 [.ref 105, .null, .null] [] σ K from ?_)
  refine go_iconst (v := iI 0) dX6_wallsThatGive_0 (by decide) ?_
  refine go_istore_n dX6_wallsThatGive_1 (Nat.le_of_ble_eq_true rfl) rfl ?_
  refine go_iconst (v := iI 0) dX6_wallsThatGive_2 (by decide) ?_
  refine go_istore_n dX6_wallsThatGive_3 (Nat.le_of_ble_eq_true rfl) rfl ?_
  exact wl4 hR hT hS hW hw h0 hK 0 (by omega)

theorem ct_X11_walls {l : Launch} {D : va_G} {cA ad : Nat → Nat} {d : Nat} {σ : AS} {K : Option Value → AS → Prop} {X : XS} (hR : RO σ) (hK0 : XK X) (hC : CI σ X) (hK : ∀ τ, QF σ τ → K (some (.int (iI (wallsA X)))) τ) : Call l D cA ad (d + 2) mX11_walls [.ref 0] σ K := by
  refine call_go (by decide) (Nat.le_of_ble_eq_true rfl) (show Go l D cA ad (d + 2) mX11_walls 0 [.ref 0] [] σ K from ?_)
  refine go_aload_n dX11_walls_0 rfl ?_
  refine go_getR fX11_19 dX11_walls_1 rfl (hR _ _ _ rfl) ?_
  refine go_callV (as := []) wX11_135 dX11_walls_4 rfl rfl rfl rfl (Nat.le_of_ble_eq_true rfl) (ct_told2 hC.2.1 hK0.s (fun hn => ?_) (fun hn => ?_))
  · refine go_if_eq (tgt := 20) dX11_walls_7 (by decide) (fun h7 => ?_) (fun h7 => ?_)
    · exact absurd h7 (by decide)
    · refine go_aload_n dX11_walls_10 rfl ?_
      refine go_getR fX11_94 dX11_walls_11 rfl (hR _ _ _ rfl) ?_
      refine go_callV (as := []) wX11_303 dX11_walls_14 rfl rfl rfl rfl (Nat.le_of_ble_eq_true rfl) (ct_X6_wallsThatGive hR hC.2.1 hK0.s hC.2.2.1 hK0.w hn ?_)
      refine go_goto (tgt := 21) dX11_walls_17 (by decide) ?_
      refine go_iret rfl rfl dX11_walls_21 ?_
      have e : wallsA X = (btF (wlP (xs X) (xw X)) (nP (xs X) - 1) : Int) := by unfold wallsA; rw [if_pos (by omega)]
      have h9 := hK σ QF.rf
      rw [e] at h9
      exact h9
  · refine go_if_eq (tgt := 20) dX11_walls_7 (by decide) (fun h7 => ?_) (fun h7 => ?_)
    · refine go_iconst (v := iI (-1)) dX11_walls_20 (by decide) ?_
      refine go_iret rfl rfl dX11_walls_21 ?_
      have e : wallsA X = -1 := by unfold wallsA; rw [if_neg (by omega)]
      have h9 := hK σ QF.rf
      rw [e] at h9
      exact h9
    · exact absurd h7 (by decide)

theorem mw18 {l : Launch} {D : va_G} {cA ad : Nat → Nat} {d : Nat} {σ : AS} {K : Option Value → AS → Prop} {s : PS} {w : WT} (hR : RO σ) (hT : TwM σ s) (hS : TwK s) (hW : WM σ 124 w) (hw : WK s w) (h0 : 0 < nP s) (hK : K (some (.int (iI (btF (wlP s w) (nP s - 1) : Nat)))) σ) : ∀ i : Nat, i ≤ nP s - 1 → Go l D cA ad (d + 1) mX12_walls 18 [.ref 111, .int (iI (btF (wlP s w) i : Nat)), .int (iI i)] [] σ K := by
  have hP7 := hS.1
  refine up_loop ?_ (fun i hi ih => ?_)
  · refine go_iload_n dX12_walls_18 rfl ?_
    refine go_iconst (v := iI 1) dX12_walls_19 (by decide) ?_
    refine go_iadd dX12_walls_20 ?_
    refine go_aload_n dX12_walls_21 rfl ?_
    refine go_getI fX12_294 dX12_walls_22 rfl ?_
    refine go_icmp_ge (tgt := 75) dX12_walls_25 (by decide) (fun h25 => ?_) (fun h25 => ?_)
    · refine go_iload_n dX12_walls_75 rfl ?_
      refine go_iret rfl rfl dX12_walls_76 ?_
      exact hK
    · exfalso
      rw [hT.1, iI_add, iI_le (by omega)] at h25
      omega
  · refine go_iload_n dX12_walls_18 rfl ?_
    refine go_iconst (v := iI 1) dX12_walls_19 (by decide) ?_
    refine go_iadd dX12_walls_20 ?_
    refine go_aload_n dX12_walls_21 rfl ?_
    refine go_getI fX12_294 dX12_walls_22 rfl ?_
    refine go_icmp_ge (tgt := 75) dX12_walls_25 (by decide) (fun h25 => ?_) (fun h25 => ?_)
    · exfalso
      rw [hT.1, iI_add, iI_le (by omega)] at h25
      omega
    · have hbl := btF_512 (wlP s w) i (by omega)
      have h7 := wk7 hS hw i
      have h8 := wk7 hS hw (i + 1)
      have hpi := hS.2.2.2.1 i (by omega)
      unfold PdK at hpi
      have hab := ab_or (wa w i - wa w (i + 1))
      refine go_iload_n dX12_walls_28 rfl ?_
      refine go_aload_n dX12_walls_29 rfl ?_
      refine go_getR fX12_61 dX12_walls_30 rfl (hR _ _ _ rfl) ?_
      refine go_iload_n dX12_walls_33 rfl ?_
      refine go_callS (as := [_, _]) wX12_312 dX12_walls_34 rfl rfl (Nat.le_of_ble_eq_true rfl) (ct_X12_water rfl hW (by omega) ?_)
      refine go_aload_n dX12_walls_37 rfl ?_
      refine go_getR fX12_61 dX12_walls_38 rfl (hR _ _ _ rfl) ?_
      refine go_iload_n dX12_walls_41 rfl ?_
      refine go_iconst (v := iI 1) dX12_walls_42 (by decide) ?_
      refine go_iadd dX12_walls_43 ?_
      rw [iI_add]
      refine go_callS (as := [_, _]) wX12_312 dX12_walls_44 rfl rfl (Nat.le_of_ble_eq_true rfl) (ct_X12_water (i := i + 1) rfl hW (by omega) ?_)
      refine go_isub dX12_walls_47 ?_
      rw [iI_sub]
      refine go_abs wX12_454 dX12_walls_48 (Nat.le_of_ble_eq_true rfl) ?_
      rw [iI_ab (by omega)]
      refine go_aload_n dX12_walls_51 rfl ?_
      refine go_iload_n dX12_walls_52 rfl ?_
      refine go_iconst (v := iI 5) dX12_walls_53 (by decide) ?_
      refine go_callV (as := [_, _]) wX12_300 dX12_walls_54 rfl rfl rfl rfl (Nat.le_of_ble_eq_true rfl) (ct_X12_told (j := 5) hR hT hS.1 (by omega) (by decide) ?_)
      refine go_icmp_le (tgt := 66) dX12_walls_57 (by decide) (fun h57 => ?_) (fun h57 => ?_)
      · rw [iI_le (by omega)] at h57
        refine go_iconst (v := iI 0) dX12_walls_66 (by decide) ?_
        refine go_ior dX12_walls_67 ?_
        rw [b_or0]
        rw [btF_f (by unfold wlP; exact decide_eq_false (by omega))] at ih
        refine go_istore_n dX12_walls_68 (Nat.le_of_ble_eq_true rfl) rfl ?_
        refine go_iincI dX12_walls_69 rfl (Nat.le_of_ble_eq_true rfl) rfl ?_
        refine go_goto (tgt := 18) dX12_walls_72 (by decide) ?_
        simp only [List.set, iI_add]
        exact ih
      · rw [iI_le (by omega)] at h57
        refine go_iconst (v := iI 1) dX12_walls_60 (by decide) ?_
        refine go_iload_n dX12_walls_61 rfl ?_
        refine go_ishl dX12_walls_62 ?_
        refine go_goto (tgt := 67) dX12_walls_63 (by decide) ?_
        refine go_ior dX12_walls_67 ?_
        rw [b_or _ hbl i (by omega)]
        rw [btF_t (by unfold wlP; exact decide_eq_true (by omega))] at ih
        refine go_istore_n dX12_walls_68 (Nat.le_of_ble_eq_true rfl) rfl ?_
        refine go_iincI dX12_walls_69 rfl (Nat.le_of_ble_eq_true rfl) rfl ?_
        refine go_goto (tgt := 18) dX12_walls_72 (by decide) ?_
        simp only [List.set, iI_add]
        exact ih

theorem ct_X12_walls {l : Launch} {D : va_G} {cA ad : Nat → Nat} {d : Nat} {σ : AS} {K : Option Value → AS → Prop} {X : XS} (hR : RO σ) (hK0 : XK X) (hC : MI σ X) (hK : ∀ τ, DF (xL X) σ τ → K (some (.int (iI (wallsA X)))) τ) : Call l D cA ad (d + 1) mX12_walls [.ref 111] σ K := by
  have hP7 := hK0.s.1
  have hQ9 := hK0.s.2.1
  refine call_go (by decide) (Nat.le_of_ble_eq_true rfl) (show Go l D cA ad (d + 1) mX12_walls 0 [.ref 111, .null, .null] [] σ K from ?_)
  refine go_aload_n dX12_walls_0 rfl ?_
  refine go_iconst (v := iI 0) dX12_walls_1 (by decide) ?_
  refine go_putI fX12_96 rfl dX12_walls_2 rfl rfl rfl ?_
  have hq : DF (xL X) σ (sI σ 111 (upd (σ.1 111) 0 (iI 0))) := DF_f0 DF.rf
  have hR0 := hq.RO hR
  have hC0 := hC.q hK0 hq
  generalize sI σ 111 (upd (σ.1 111) 0 (iI 0)) = τ at hq hR0 hC0 ⊢
  refine go_aload_n dX12_walls_5 rfl ?_
  refine go_getI fX12_294 dX12_walls_6 rfl ?_
  refine go_if_ne (tgt := 14) dX12_walls_9 (by decide) (fun h9 => ?_) (fun h9 => ?_)
  · rw [hC0.2.1.1, iI_eq0 (by omega)] at h9
    refine go_iconst (v := iI 0) dX12_walls_14 (by decide) ?_
    refine go_istore_n dX12_walls_15 (Nat.le_of_ble_eq_true rfl) rfl ?_
    refine go_iconst (v := iI 0) dX12_walls_16 (by decide) ?_
    refine go_istore_n dX12_walls_17 (Nat.le_of_ble_eq_true rfl) rfl ?_
    simp only [List.set]
    have e : wallsA X = (btF (wlP (xs X) (xw X)) (nP (xs X) - 1) : Int) := by unfold wallsA; rw [if_pos (by omega)]
    have h9' := hK τ hq
    rw [e] at h9'
    exact mw18 hR0 hC0.2.1 hK0.s (WM_R.mpr hC0.2.2.1.1) hK0.w (by omega) h9' 0 (by omega)
  · rw [hC0.2.1.1, iI_eq0 (by omega)] at h9
    refine go_iconst (v := iI (-1)) dX12_walls_12 (by decide) ?_
    refine go_iret rfl rfl dX12_walls_13 ?_
    have e : wallsA X = -1 := by unfold wallsA; rw [if_neg (by omega)]
    have h9 := hK τ hq
    rw [e] at h9
    exact h9

theorem dr13 {l : Launch} {D : va_G} {cA ad : Nat → Nat} {d : Nat} {σ : AS} {K : Option Value → AS → Prop} {X : XS} {p : Nat} {R : Int} (hR : RO σ) (hK0 : XK X) (hC : CI σ X) (hp : p < nP (xs X)) (hK : ∀ τ, QF σ τ → K (some (.int (iI R))) τ) : ∀ (r i : Nat) (w : WT) (τ : AS), r + i = 100 → QF σ τ → WC τ 106 w → WK (xs X) w → dy w + r ≤ 20000 → dryF (xs X) (xv X) p r i w = R → Go l D cA ad (d + 5) mX6_daysUntilDry 13 [.ref 105, .int (iI p), .int (iI i)] [] τ K := by
  have hP7 := hK0.s.1
  intro r
  induction r with
  | zero =>
    intro i w τ hr hq hW hw hd hres
    refine go_iload_n dX6_daysUntilDry_13 rfl ?_
    refine go_bipush (v := iI 99) dX6_daysUntilDry_14 (by decide) ?_
    refine go_icmp_gt (tgt := 59) dX6_daysUntilDry_16 (by decide) (fun h16 => ?_) (fun h16 => ?_)
    · refine go_iconst (v := iI (-1)) dX6_daysUntilDry_59 (by decide) ?_
      refine go_iret rfl rfl dX6_daysUntilDry_60 ?_
      have e : -1 = R := hres
      rw [← e] at hK
      exact hK τ hq
    · exfalso
      rw [iI_lt (by omega)] at h16
      omega
  | succ r ih =>
    intro i w τ hr hq hW hw hd hres
    refine go_iload_n dX6_daysUntilDry_13 rfl ?_
    refine go_bipush (v := iI 99) dX6_daysUntilDry_14 (by decide) ?_
    refine go_icmp_gt (tgt := 59) dX6_daysUntilDry_16 (by decide) (fun h16 => ?_) (fun h16 => ?_)
    · exfalso
      rw [iI_lt (by omega)] at h16
      omega
    · refine go_aload_n dX6_daysUntilDry_19 rfl ?_
      refine go_getR fX6_12 dX6_daysUntilDry_20 rfl (hq.RO hR _ _ _ rfl) ?_
      refine go_getR fX6_73 dX6_daysUntilDry_23 rfl (hq.RO hR _ _ _ rfl) ?_
      refine go_iload_n dX6_daysUntilDry_26 rfl ?_
      refine go_iald dX6_daysUntilDry_27 rfl (vp_iI (by omega)) ?_
      rw [cl_n _ (by omega), (hW.1 p (by omega)).1]
      refine go_if_ne (tgt := 33) dX6_daysUntilDry_28 (by decide) (fun h28 => ?_) (fun h28 => ?_)
      · rw [iI_eq0 (by have := wk7 hK0.s hw p; omega)] at h28
        refine go_aload_n dX6_daysUntilDry_33 rfl ?_
        refine go_getR fX6_26 dX6_daysUntilDry_34 rfl (hq.RO hR _ _ _ rfl) ?_
        refine go_aload_n dX6_daysUntilDry_37 rfl ?_
        refine go_getR fX6_12 dX6_daysUntilDry_38 rfl (hq.RO hR _ _ _ rfl) ?_
        refine go_aload_n dX6_daysUntilDry_41 rfl ?_
        refine go_getR fX6_22 dX6_daysUntilDry_42 rfl (hq.RO hR _ _ _ rfl) ?_
        refine go_getR fX6_41 dX6_daysUntilDry_45 rfl (hq.RO hR _ _ _ rfl) ?_
        refine go_iconst (v := iI 0) dX6_daysUntilDry_48 (by decide) ?_
        refine go_iald dX6_daysUntilDry_49 rfl (vp_iI (by decide)) ?_
        rw [cl_0, (hC.q hK0 hq).2.1.2.2.1 0 (by decide)]
        refine go_callV (as := [_, _]) wX6_46 dX6_daysUntilDry_50 rfl rfl rfl rfl (Nat.le_of_ble_eq_true rfl) (ct_X2_passDay (hq.RO hR) (hC.q hK0 hq).2.1 hK0.s WB_106 hW hw (by decide) hK0.L (hC.q hK0 hq).2.2.2.2.2.2.2.1 (by have := hK0.s.2.2.1 0 (by decide); omega) (fun ρ fr hW2 => ?_))
        refine go_iincI dX6_daysUntilDry_53 rfl (Nat.le_of_ble_eq_true rfl) rfl ?_
        refine go_goto (tgt := 13) dX6_daysUntilDry_56 (by decide) ?_
        simp only [List.set, iI_add]
        exact ih (i + 1) _ ρ (by omega) (hq.tr (QF.w fr)) hW2 (dayF_ok (hv := hLw (xL X) (xh X)) hK0.s hw (hK0.s.2.2.1 0 (by decide)).1 (by omega)).1 (by rw [(dayF_ok (hv := hLw (xL X) (xh X)) hK0.s hw (hK0.s.2.2.1 0 (by decide)).1 (by omega)).2.2]; omega) (by rw [← hres]; exact (if_neg h28).symm)
      · rw [iI_eq0 (by have := wk7 hK0.s hw p; omega)] at h28
        refine go_iload_n dX6_daysUntilDry_31 rfl ?_
        refine go_iret rfl rfl dX6_daysUntilDry_32 ?_
        have e : (i : Int) = R := by rw [← hres]; exact (if_pos h28).symm
        rw [← e] at hK
        exact hK τ hq
theorem ct_X6_daysUntilDry {l : Launch} {D : va_G} {cA ad : Nat → Nat} {d : Nat} {σ : AS} {K : Option Value → AS → Prop} {X : XS} {p : Nat} (hR : RO σ) (hK0 : XK X) (hC : CI σ X) (hp : p < nP (xs X)) (hK : ∀ τ, QF σ τ → K (some (.int (iI (dryF (xs X) (xv X) p 100 0 (xw X))))) τ) : Call l D cA ad (d + 5) mX6_daysUntilDry [.ref 105, .int (iI p)] σ K := by
  refine call_go (by decide) (Nat.le_of_ble_eq_true rfl) (show Go l D cA ad (d + 5) mX6_daysUntilDry 0 [.ref 105, .int (iI p), .null] [] σ K from ?_)
  refine go_aload_n dX6_daysUntilDry_0 rfl ?_
  refine go_getR fX6_12 dX6_daysUntilDry_1 rfl (hR _ _ _ rfl) ?_
  refine go_aload_n dX6_daysUntilDry_4 rfl ?_
  refine go_getR fX6_30 dX6_daysUntilDry_5 rfl (hR _ _ _ rfl) ?_
  refine go_callV (as := [_]) wX6_33 dX6_daysUntilDry_8 rfl rfl rfl rfl (Nat.le_of_ble_eq_true rfl) (ct_X10_become (w := xw X) hR WB_106 WB_87 (by decide) hC.2.2.1 (fun τ fr hW => ?_))
  refine go_iconst (v := iI 0) dX6_daysUntilDry_11 (by decide) ?_
  refine go_istore_n dX6_daysUntilDry_12 (Nat.le_of_ble_eq_true rfl) rfl ?_
  simp only [List.set]
  exact dr13 hR hK0 hC hp hK 100 0 (xw X) _ (by omega) (QF.r fr) hW hK0.w (by have := hK0.d; omega) rfl

theorem ct_X11_dries {l : Launch} {D : va_G} {cA ad : Nat → Nat} {d : Nat} {σ : AS} {K : Option Value → AS → Prop} {X : XS} {p : Int} (hR : RO σ) (hK0 : XK X) (hC : CI σ X) (hp32 : -2147483648 ≤ p ∧ p < 2147483648) (hK : ∀ τ, QF σ τ → K (some (.int (iI (driesA X p)))) τ) : Call l D cA ad (d + 6) mX11_dries [.ref 0, .int (iI p)] σ K := by
  refine call_go (by decide) (Nat.le_of_ble_eq_true rfl) (show Go l D cA ad (d + 6) mX11_dries 0 [.ref 0, .int (iI p)] [] σ K from ?_)
  refine go_aload_n dX11_dries_0 rfl ?_
  refine go_getR fX11_19 dX11_dries_1 rfl (hR _ _ _ rfl) ?_
  refine go_iload_n dX11_dries_4 rfl ?_
  refine go_callV (as := [_]) wX11_142 dX11_dries_5 rfl rfl rfl rfl (Nat.le_of_ble_eq_true rfl) (ct_hasPond2 hp32 hC.2.1 hK0.s (fun k hke hkl => ?_) (fun hkx => ?_))
  · refine go_if_eq (tgt := 22) dX11_dries_8 (by decide) (fun h8 => ?_) (fun h8 => ?_)
    · exact absurd h8 (by decide)
    · subst hke
      refine go_aload_n dX11_dries_11 rfl ?_
      refine go_getR fX11_94 dX11_dries_12 rfl (hR _ _ _ rfl) ?_
      refine go_iload_n dX11_dries_15 rfl ?_
      refine go_callV (as := [_]) wX11_257 dX11_dries_16 rfl rfl rfl rfl (Nat.le_of_ble_eq_true rfl) (ct_X6_daysUntilDry hR hK0 hC hkl (fun τ hq => ?_))
      refine go_goto (tgt := 23) dX11_dries_19 (by decide) ?_
      refine go_iret rfl rfl dX11_dries_23 ?_
      have e : driesA X k = dryF (xs X) (xv X) k 100 0 (xw X) := by unfold driesA; rw [if_pos (by omega), Int.toNat_natCast]
      have h9 := hK τ hq
      rw [e] at h9
      exact h9
  · refine go_if_eq (tgt := 22) dX11_dries_8 (by decide) (fun h8 => ?_) (fun h8 => ?_)
    · refine go_iconst (v := iI (-1)) dX11_dries_22 (by decide) ?_
      refine go_iret rfl rfl dX11_dries_23 ?_
      have e : driesA X p = -1 := by unfold driesA; rw [if_neg (by omega)]
      have h9 := hK σ QF.rf
      rw [e] at h9
      exact h9
    · exact absurd h8 (by decide)

theorem mr28 {l : Launch} {D : va_G} {cA ad : Nat → Nat} {d : Nat} {σ : AS} {K : Option Value → AS → Prop} {X : XS} {p : Nat} {R : Int} (hR : RO σ) (hK0 : XK X) (hC : MI σ X) (hp : p < nP (xs X)) (hK : ∀ τ, DF (xL X) σ τ → K (some (.int (iI R))) τ) : ∀ (r i : Nat) (w : WT) (τ : AS) (n6 : Nat), r + i = 100 → DF (xL X) σ τ → WM τ 125 w → WK (xs X) w → dy w + r ≤ 20000 → τ.1 125 24 = iI n6 → n6 ≤ 60 → dryF (xs X) (xv X) p r i w = R → Go l D cA ad (d + 36) mX12_dries 28 [.ref 111, .int (iI p), .int (iI i)] [] τ K := by
  have hP7 := hK0.s.1
  intro r
  induction r with
  | zero =>
    intro i w τ n6 hr hq hW hw hd hn hn6 hres
    refine go_iload_n dX12_dries_28 rfl ?_
    refine go_bipush (v := iI 99) dX12_dries_29 (by decide) ?_
    refine go_icmp_gt (tgt := 67) dX12_dries_31 (by decide) (fun h31 => ?_) (fun h31 => ?_)
    · refine go_iconst (v := iI (-1)) dX12_dries_67 (by decide) ?_
      refine go_iret rfl rfl dX12_dries_68 ?_
      have e : -1 = R := hres
      rw [← e] at hK
      exact hK τ hq
    · exfalso
      rw [iI_lt (by omega)] at h31
      omega
  | succ r ih =>
    intro i w τ n6 hr hq hW hw hd hn hn6 hres
    refine go_iload_n dX12_dries_28 rfl ?_
    refine go_bipush (v := iI 99) dX12_dries_29 (by decide) ?_
    refine go_icmp_gt (tgt := 67) dX12_dries_31 (by decide) (fun h31 => ?_) (fun h31 => ?_)
    · exfalso
      rw [iI_lt (by omega)] at h31
      omega
    · refine go_aload_n dX12_dries_34 rfl ?_
      refine go_getR fX12_64 dX12_dries_35 rfl (hq.RO hR _ _ _ rfl) ?_
      refine go_iload_n dX12_dries_38 rfl ?_
      refine go_callS (as := [_, _]) wX12_312 dX12_dries_39 rfl rfl (Nat.le_of_ble_eq_true rfl) (ct_X12_water rfl hW (by omega) ?_)
      refine go_if_ne (tgt := 47) dX12_dries_42 (by decide) (fun h42 => ?_) (fun h42 => ?_)
      · rw [iI_eq0 (by have := wk7 hK0.s hw p; omega)] at h42
        refine go_aload_n dX12_dries_47 rfl ?_
        refine go_aload_n dX12_dries_48 rfl ?_
        refine go_getR fX12_64 dX12_dries_49 rfl (hq.RO hR _ _ _ rfl) ?_
        refine go_aload_n dX12_dries_52 rfl ?_
        refine go_getR fX12_37 dX12_dries_53 rfl (hq.RO hR _ _ _ rfl) ?_
        refine go_iconst (v := iI 0) dX12_dries_56 (by decide) ?_
        refine go_iald dX12_dries_57 rfl (vp_iI (by decide)) ?_
        rw [cl_0, (hC.q hK0 hq).2.1.2.2.1 0 (by decide)]
        refine go_callV (as := [_, _]) wX12_391 dX12_dries_58 rfl rfl rfl rfl (Nat.le_of_ble_eq_true rfl) (ct_X12_goDay hK0.s rfl (Or.inr rfl) hK0.L ((hC.q hK0 hq).ms (hq.RO hR)) hW hw (by have := hK0.s.2.2.1 0 (by decide); omega) (by omega) hn hn6 (fun ρ r2 n' off fr hM2 hr2 h59 hcs hlr => ?_))
        refine go_iincI dX12_dries_61 rfl (Nat.le_of_ble_eq_true rfl) rfl ?_
        refine go_goto (tgt := 28) dX12_dries_64 (by decide) ?_
        simp only [List.set, iI_add]
        exact ih (i + 1) _ _ (n' + 1) (by omega) (DF_t (hq.tr (DF.n fr hM2.2.2.2.1 hM2.2.2.2.2))) (by rw [WM_R, sI_same]; exact hr2) (dayF_ok (hv := hLw (xL X) (xh X)) hK0.s hw (hK0.s.2.2.1 0 (by decide)).1 (by omega)).1 (by rw [(dayF_ok (hv := hLw (xL X) (xh X)) hK0.s hw (hK0.s.2.2.1 0 (by decide)).1 (by omega)).2.2]; omega) (by rw [sI_same]; exact hlr.1) (by omega) (by rw [← hres]; exact (if_neg h42).symm)
      · rw [iI_eq0 (by have := wk7 hK0.s hw p; omega)] at h42
        refine go_iload_n dX12_dries_45 rfl ?_
        refine go_iret rfl rfl dX12_dries_46 ?_
        have e : (i : Int) = R := by rw [← hres]; exact (if_pos h42).symm
        rw [← e] at hK
        exact hK τ hq
theorem ct_X12_dries {l : Launch} {D : va_G} {cA ad : Nat → Nat} {d : Nat} {σ : AS} {K : Option Value → AS → Prop} {X : XS} {p : Int} (hR : RO σ) (hK0 : XK X) (hC : MI σ X) (hp32 : -2147483648 ≤ p ∧ p < 2147483648) (hK : ∀ τ, DF (xL X) σ τ → K (some (.int (iI (driesA X p)))) τ) : Call l D cA ad (d + 36) mX12_dries [.ref 111, .int (iI p)] σ K := by
  have hP7 := hK0.s.1
  have hQ9 := hK0.s.2.1
  refine call_go (by decide) (Nat.le_of_ble_eq_true rfl) (show Go l D cA ad (d + 36) mX12_dries 0 [.ref 111, .int (iI p), .null] [] σ K from ?_)
  refine go_aload_n dX12_dries_0 rfl ?_
  refine go_iconst (v := iI 0) dX12_dries_1 (by decide) ?_
  refine go_putI fX12_96 rfl dX12_dries_2 rfl rfl rfl ?_
  have hq : DF (xL X) σ (sI σ 111 (upd (σ.1 111) 0 (iI 0))) := DF_f0 DF.rf
  have hR0 := hq.RO hR
  have hC0 := hC.q hK0 hq
  generalize sI σ 111 (upd (σ.1 111) 0 (iI 0)) = τ at hq hR0 hC0 ⊢
  refine go_aload_n dX12_dries_5 rfl ?_
  refine go_iload_n dX12_dries_6 rfl ?_
  refine go_callV (as := [_]) wX12_364 dX12_dries_7 rfl rfl rfl rfl (Nat.le_of_ble_eq_true rfl) (ct_isPond2 hp32 hC0.2.1 hK0.s (fun k hke hkl => ?_) (fun hkx => ?_))
  · refine go_if_ne (tgt := 15) dX12_dries_10 (by decide) (fun h10 => ?_) (fun h10 => ?_)
    · subst hke
      refine go_aload_n dX12_dries_15 rfl ?_
      refine go_getR fX12_61 dX12_dries_16 rfl (hR0 _ _ _ rfl) ?_
      refine go_aload_n dX12_dries_19 rfl ?_
      refine go_getR fX12_64 dX12_dries_20 rfl (hR0 _ _ _ rfl) ?_
      refine go_callS (as := [_, _]) wX12_409 dX12_dries_23 rfl rfl (Nat.le_of_ble_eq_true rfl) (ct_X12_copy (w := xw X) (lg := xl X) rfl rfl (by decide) hC0.2.2.1 (fun r hr => ?_))
      refine go_iconst (v := iI 0) dX12_dries_26 (by decide) ?_
      refine go_istore_n dX12_dries_27 (Nat.le_of_ble_eq_true rfl) rfl ?_
      simp only [List.set]
      have hl := lgn_le (dy (xw X))
      have e : driesA X k = dryF (xs X) (xv X) k 100 0 (xw X) := by unfold driesA; rw [if_pos (by omega), Int.toNat_natCast]
      rw [e] at hK
      exact mr28 hR0 hK0 hC0 hkl (fun ρ hq2 => hK ρ (hq.tr hq2)) 100 0 (xw X) _ (lgn (dy (xw X))) (by omega) (DF_t DF.rf) (by rw [WM_R, sI_same]; exact hr.1) hK0.w (by have := hK0.d; omega) (by rw [sI_same]; exact hr.2.1) (by omega) rfl
    · exact absurd h10 (by decide)
  · refine go_if_ne (tgt := 15) dX12_dries_10 (by decide) (fun h10 => ?_) (fun h10 => ?_)
    · exact absurd h10 (by decide)
    · refine go_iconst (v := iI (-1)) dX12_dries_13 (by decide) ?_
      refine go_iret rfl rfl dX12_dries_14 ?_
      have e : driesA X p = -1 := by unfold driesA; rw [if_neg (by omega)]
      have h9 := hK τ hq
      rw [e] at h9
      exact h9

theorem fp6 {l : Launch} {D : va_G} {cA ad : Nat → Nat} {d : Nat} {σ : AS} {K : Option Value → AS → Prop} {X : XS} (hR : RO σ) (hK0 : XK X) (hC : CI σ X) (hK : ∀ τ, QF σ τ → K (some (.int (iI (largA X)))) τ) : ∀ (r i : Nat) (τ : AS), r + i = nQ (xs X) → QF σ τ → ∀ v4 : Value, Go l D cA ad (d + 3) mX6_fullestPipe 6 [.ref 105, .int (iI (lsF X i).1), .int (iI (lsF X i).2), .int (iI i), v4] [] τ K := by
  have hQ9 := hK0.s.2.1
  intro r
  induction r with
  | zero =>
    intro i τ hr hq v4
    refine go_iload_n dX6_fullestPipe_6 rfl ?_
    refine go_aload_n dX6_fullestPipe_7 rfl ?_
    refine go_getR fX6_22 dX6_fullestPipe_8 rfl (hq.RO hR _ _ _ rfl) ?_
    refine go_getI fX6_98 dX6_fullestPipe_11 rfl ?_
    refine go_icmp_ge (tgt := 63) dX6_fullestPipe_14 (by decide) (fun h14 => ?_) (fun h14 => ?_)
    · refine go_iload_n dX6_fullestPipe_63 rfl ?_
      refine go_iret rfl rfl dX6_fullestPipe_64 ?_
      obtain rfl : i = nQ (xs X) := by omega
      exact hK τ hq
    · exfalso
      rw [(hC.q hK0 hq).2.1.2.1, iI_le (by omega)] at h14
      omega
  | succ r ih =>
    intro i τ hr hq v4
    refine go_iload_n dX6_fullestPipe_6 rfl ?_
    refine go_aload_n dX6_fullestPipe_7 rfl ?_
    refine go_getR fX6_22 dX6_fullestPipe_8 rfl (hq.RO hR _ _ _ rfl) ?_
    refine go_getI fX6_98 dX6_fullestPipe_11 rfl ?_
    refine go_icmp_ge (tgt := 63) dX6_fullestPipe_14 (by decide) (fun h14 => ?_) (fun h14 => ?_)
    · exfalso
      rw [(hC.q hK0 hq).2.1.2.1, iI_le (by omega)] at h14
      omega
    · have hbd := lsF_bd hK0 i (by omega)
      have hpb := pfF_bd hK0 (k := i) (by omega)
      refine go_aload_n dX6_fullestPipe_17 rfl ?_
      refine go_getR fX6_30 dX6_fullestPipe_18 rfl (hq.RO hR _ _ _ rfl) ?_
      refine go_iload_n dX6_fullestPipe_21 rfl ?_
      refine go_callV (as := [_]) wX6_56 dX6_fullestPipe_22 rfl rfl rfl rfl (Nat.le_of_ble_eq_true rfl) (ct_X10_isOpen WB_87 (hC.q hK0 hq).2.2.1 (pw512 hK0.s hK0.w) (by omega) (fun hb => ?_) (fun hb => ?_))
      · have hpf : pfF X i = 0 := by unfold pfF; rw [if_neg (by rw [hb]; decide)]
        refine go_if_eq (tgt := 43) dX6_fullestPipe_25 (by decide) (fun h25 => ?_) (fun h25 => ?_)
        · refine go_iconst (v := iI 0) dX6_fullestPipe_43 (by decide) ?_
          refine (show Go l D cA ad (d + 3) mX6_fullestPipe 44 [.ref 105, .int (iI (lsF X i).1), .int (iI (lsF X i).2), .int (iI i), v4] [.int (iI 0)] τ K from ?_)
          rw [← hpf]
          refine go_istore dX6_fullestPipe_44 (Nat.le_of_ble_eq_true rfl) rfl ?_
          refine go_iload dX6_fullestPipe_46 rfl ?_
          refine go_iload_n dX6_fullestPipe_48 rfl ?_
          refine go_icmp_le (tgt := 57) dX6_fullestPipe_49 (by decide) (fun h49 => ?_) (fun h49 => ?_)
          · rw [iI_le (by omega)] at h49
            refine go_iincI dX6_fullestPipe_57 rfl (Nat.le_of_ble_eq_true rfl) rfl ?_
            refine go_goto (tgt := 6) dX6_fullestPipe_60 (by decide) ?_
            simp only [List.set, iI_add]
            have e : lsF X (i + 1) = lsF X i := if_neg (by omega)
            have h9 := ih (i + 1) τ (by omega) hq
            rw [e] at h9
            exact h9 _
          · rw [iI_le (by omega)] at h49
            refine go_iload dX6_fullestPipe_52 rfl ?_
            refine go_istore_n dX6_fullestPipe_54 (Nat.le_of_ble_eq_true rfl) rfl ?_
            refine go_iload_n dX6_fullestPipe_55 rfl ?_
            refine go_istore_n dX6_fullestPipe_56 (Nat.le_of_ble_eq_true rfl) rfl ?_
            refine go_iincI dX6_fullestPipe_57 rfl (Nat.le_of_ble_eq_true rfl) rfl ?_
            refine go_goto (tgt := 6) dX6_fullestPipe_60 (by decide) ?_
            simp only [List.set, iI_add]
            have e : lsF X (i + 1) = ((i : Int), pfF X i) := if_pos (by omega)
            have h9 := ih (i + 1) τ (by omega) hq
            rw [e] at h9
            exact h9 _
        · exact absurd h25 (by decide)
      · have hpf : pfF X i = flF (xs X) (xv X) (xw X) i := by unfold pfF; rw [if_pos hb]
        refine go_if_eq (tgt := 43) dX6_fullestPipe_25 (by decide) (fun h25 => ?_) (fun h25 => ?_)
        · exact absurd h25 (by decide)
        · refine go_aload_n dX6_fullestPipe_28 rfl ?_
          refine go_getR fX6_26 dX6_fullestPipe_29 rfl (hq.RO hR _ _ _ rfl) ?_
          refine go_iload_n dX6_fullestPipe_32 rfl ?_
          refine go_aload_n dX6_fullestPipe_33 rfl ?_
          refine go_getR fX6_30 dX6_fullestPipe_34 rfl (hq.RO hR _ _ _ rfl) ?_
          refine go_callV (as := [_, _]) wX6_152 dX6_fullestPipe_37 rfl rfl rfl rfl (Nat.le_of_ble_eq_true rfl) (ct_X2_flowThrough (hq.RO hR) (hC.q hK0 hq).2.1 hK0.s WB_87 (hC.q hK0 hq).2.2.1 hK0.w hK0.L (hC.q hK0 hq).2.2.2.2.2.2.2.1 (by omega) (fun ρ fr => ?_))
          refine go_goto (tgt := 44) dX6_fullestPipe_40 (by decide) ?_
          rw [show flF (xs X) (hLw (xL X) (xh X)) (xw X) i = pfF X i from hpf.symm]
          refine go_istore dX6_fullestPipe_44 (Nat.le_of_ble_eq_true rfl) rfl ?_
          refine go_iload dX6_fullestPipe_46 rfl ?_
          refine go_iload_n dX6_fullestPipe_48 rfl ?_
          refine go_icmp_le (tgt := 57) dX6_fullestPipe_49 (by decide) (fun h49 => ?_) (fun h49 => ?_)
          · rw [iI_le (by omega)] at h49
            refine go_iincI dX6_fullestPipe_57 rfl (Nat.le_of_ble_eq_true rfl) rfl ?_
            refine go_goto (tgt := 6) dX6_fullestPipe_60 (by decide) ?_
            simp only [List.set, iI_add]
            have e : lsF X (i + 1) = lsF X i := if_neg (by omega)
            have h9 := ih (i + 1) ρ (by omega) (hq.tr (QF.w (FrW.of2 fr)))
            rw [e] at h9
            exact h9 _
          · rw [iI_le (by omega)] at h49
            refine go_iload dX6_fullestPipe_52 rfl ?_
            refine go_istore_n dX6_fullestPipe_54 (Nat.le_of_ble_eq_true rfl) rfl ?_
            refine go_iload_n dX6_fullestPipe_55 rfl ?_
            refine go_istore_n dX6_fullestPipe_56 (Nat.le_of_ble_eq_true rfl) rfl ?_
            refine go_iincI dX6_fullestPipe_57 rfl (Nat.le_of_ble_eq_true rfl) rfl ?_
            refine go_goto (tgt := 6) dX6_fullestPipe_60 (by decide) ?_
            simp only [List.set, iI_add]
            have e : lsF X (i + 1) = ((i : Int), pfF X i) := if_pos (by omega)
            have h9 := ih (i + 1) ρ (by omega) (hq.tr (QF.w (FrW.of2 fr)))
            rw [e] at h9
            exact h9 _
theorem ct_X6_fullestPipe {l : Launch} {D : va_G} {cA ad : Nat → Nat} {d : Nat} {σ : AS} {K : Option Value → AS → Prop} {X : XS} (hR : RO σ) (hK0 : XK X) (hC : CI σ X) (hK : ∀ τ, QF σ τ → K (some (.int (iI (largA X)))) τ) : Call l D cA ad (d + 3) mX6_fullestPipe [.ref 105] σ K := by
  refine call_go (by decide) (Nat.le_of_ble_eq_true rfl) (show Go l D cA ad (d + 3) mX6_fullestPipe 0 [.ref 105, .null, .null, .null, .null] [] σ K from ?_)
  refine go_iconst (v := iI (-1)) dX6_fullestPipe_0 (by decide) ?_
  refine go_istore_n dX6_fullestPipe_1 (Nat.le_of_ble_eq_true rfl) rfl ?_
  refine go_iconst (v := iI 0) dX6_fullestPipe_2 (by decide) ?_
  refine go_istore_n dX6_fullestPipe_3 (Nat.le_of_ble_eq_true rfl) rfl ?_
  refine go_iconst (v := iI 0) dX6_fullestPipe_4 (by decide) ?_
  refine go_istore_n dX6_fullestPipe_5 (Nat.le_of_ble_eq_true rfl) rfl ?_
  exact fp6 hR hK0 hC hK (nQ (xs X)) 0 σ (by omega) QF.rf _

theorem ct_X11_largest {l : Launch} {D : va_G} {cA ad : Nat → Nat} {d : Nat} {σ : AS} {K : Option Value → AS → Prop} {X : XS} (hR : RO σ) (hK0 : XK X) (hC : CI σ X) (hK : ∀ τ, QF σ τ → K (some (.int (iI (largA X)))) τ) : Call l D cA ad (d + 4) mX11_largest [.ref 0] σ K := by
  refine call_go (by decide) (Nat.le_of_ble_eq_true rfl) (show Go l D cA ad (d + 4) mX11_largest 0 [.ref 0] [] σ K from ?_)
  refine go_aload_n dX11_largest_0 rfl ?_
  refine go_getR fX11_19 dX11_largest_1 rfl (hR _ _ _ rfl) ?_
  refine go_callV (as := []) wX11_135 dX11_largest_4 rfl rfl rfl rfl (Nat.le_of_ble_eq_true rfl) (ct_told2 hC.2.1 hK0.s (fun hn => ?_) (fun hn => ?_))
  · refine go_if_eq (tgt := 20) dX11_largest_7 (by decide) (fun h7 => ?_) (fun h7 => ?_)
    · exact absurd h7 (by decide)
    · refine go_aload_n dX11_largest_10 rfl ?_
      refine go_getR fX11_94 dX11_largest_11 rfl (hR _ _ _ rfl) ?_
      refine go_callV (as := []) wX11_335 dX11_largest_14 rfl rfl rfl rfl (Nat.le_of_ble_eq_true rfl) (ct_X6_fullestPipe hR hK0 hC (fun τ hq => ?_))
      refine go_goto (tgt := 21) dX11_largest_17 (by decide) ?_
      refine go_iret rfl rfl dX11_largest_21 ?_
      exact hK τ hq
  · refine go_if_eq (tgt := 20) dX11_largest_7 (by decide) (fun h7 => ?_) (fun h7 => ?_)
    · refine go_iconst (v := iI (-1)) dX11_largest_20 (by decide) ?_
      refine go_iret rfl rfl dX11_largest_21 ?_
      have h9 := hK σ QF.rf
      unfold largA at h9
      rw [nQ_0 hK0.s hn] at h9
      exact h9
    · exact absurd h7 (by decide)

theorem mf11 {l : Launch} {D : va_G} {cA ad : Nat → Nat} {d : Nat} {σ : AS} {K : Option Value → AS → Prop} {X : XS} (hR : RO σ) (hK0 : XK X) (hC : MI σ X) (hK : ∀ τ, DF (xL X) σ τ → K (some (.int (iI (largA X)))) τ) : ∀ (r i : Nat) (τ : AS), r + i = nQ (xs X) → DF (xL X) σ τ → ∀ v4 : Value, Go l D cA ad (d + 34) mX12_largest 11 [.ref 111, .int (iI (lsF X i).1), .int (iI (lsF X i).2), .int (iI i), v4] [] τ K := by
  have hQ9 := hK0.s.2.1
  intro r
  induction r with
  | zero =>
    intro i τ hr hq v4
    refine go_iload_n dX12_largest_11 rfl ?_
    refine go_aload_n dX12_largest_12 rfl ?_
    refine go_getI fX12_297 dX12_largest_13 rfl ?_
    refine go_icmp_ge (tgt := 68) dX12_largest_16 (by decide) (fun h16 => ?_) (fun h16 => ?_)
    · refine go_iload_n dX12_largest_68 rfl ?_
      refine go_iret rfl rfl dX12_largest_69 ?_
      obtain rfl : i = nQ (xs X) := by omega
      exact hK τ hq
    · exfalso
      rw [(hC.q hK0 hq).2.1.2.1, iI_le (by omega)] at h16
      omega
  | succ r ih =>
    intro i τ hr hq v4
    refine go_iload_n dX12_largest_11 rfl ?_
    refine go_aload_n dX12_largest_12 rfl ?_
    refine go_getI fX12_297 dX12_largest_13 rfl ?_
    refine go_icmp_ge (tgt := 68) dX12_largest_16 (by decide) (fun h16 => ?_) (fun h16 => ?_)
    · exfalso
      rw [(hC.q hK0 hq).2.1.2.1, iI_le (by omega)] at h16
      omega
    · have hbd := lsF_bd hK0 i (by omega)
      have hpb := pfF_bd hK0 (k := i) (by omega)
      refine go_aload_n dX12_largest_19 rfl ?_
      refine go_getR fX12_61 dX12_largest_20 rfl (hq.RO hR _ _ _ rfl) ?_
      refine go_bipush (v := iI 21) dX12_largest_23 (by decide) ?_
      refine go_iald dX12_largest_25 rfl (vp_iI (by decide)) ?_
      rw [show (iI 21).toNatClampNeg = 21 by decide, (hC.q hK0 hq).2.2.1.1.2.1]
      refine go_iload_n dX12_largest_26 rfl ?_
      refine go_callS (as := [_, _]) wX12_229 dX12_largest_27 rfl rfl (Nat.le_of_ble_eq_true rfl) (ct_X12_has (pw512 hK0.s hK0.w) (by omega) ?_)
      rcases bit_01 (opn (xw X)) i with hbit | hbit
      · have hpf : pfF X i = 0 := by unfold pfF bitb; rw [if_neg (by rw [hbit]; decide)]
        have hpf2 : iI 0 = iI (pfF X i) := by rw [hpf]
        rw [hbit]
        refine go_if_eq (tgt := 45) dX12_largest_30 (by decide) (fun h30 => ?_) (fun h30 => ?_)
        · refine go_iconst (v := iI 0) dX12_largest_45 (by decide) ?_
          refine (show Go l D cA ad (d + 34) mX12_largest 46 [.ref 111, .int (iI (lsF X i).1), .int (iI (lsF X i).2), .int (iI i), v4] [.int (iI 0)] τ K from ?_)
          rw [← hpf]
          refine go_istore dX12_largest_46 (Nat.le_of_ble_eq_true rfl) rfl ?_
          refine go_iload dX12_largest_48 rfl ?_
          refine go_iload_n dX12_largest_50 rfl ?_
          refine go_icmp_gt (tgt := 57) dX12_largest_51 (by decide) (fun h51 => ?_) (fun h51 => ?_)
          · rw [iI_lt (by omega)] at h51
            refine go_iload_n dX12_largest_57 rfl ?_
            refine go_istore_n dX12_largest_58 (Nat.le_of_ble_eq_true rfl) rfl ?_
            refine go_iload dX12_largest_59 rfl ?_
            refine go_istore_n dX12_largest_61 (Nat.le_of_ble_eq_true rfl) rfl ?_
            refine go_iincI dX12_largest_62 rfl (Nat.le_of_ble_eq_true rfl) rfl ?_
            refine go_goto (tgt := 11) dX12_largest_65 (by decide) ?_
            simp only [List.set, iI_add]
            have e : lsF X (i + 1) = ((i : Int), pfF X i) := if_pos (by omega)
            have h9 := ih (i + 1) τ (by omega) hq
            rw [e] at h9
            exact h9 _
          · rw [iI_lt (by omega)] at h51
            refine go_goto (tgt := 62) dX12_largest_54 (by decide) ?_
            refine go_iincI dX12_largest_62 rfl (Nat.le_of_ble_eq_true rfl) rfl ?_
            refine go_goto (tgt := 11) dX12_largest_65 (by decide) ?_
            simp only [List.set, iI_add]
            have e : lsF X (i + 1) = lsF X i := if_neg (by omega)
            have h9 := ih (i + 1) τ (by omega) hq
            rw [e] at h9
            exact h9 _
        · exact absurd h30 (by decide)
      · have hpf : pfF X i = flF (xs X) (xv X) (xw X) i := by unfold pfF bitb; rw [if_pos (by rw [hbit]; decide)]
        have hpf2 : iI (flF (xs X) (hLw (xL X) (xh X)) (xw X) i) = iI (pfF X i) := by rw [hpf]; rfl
        rw [hbit]
        refine go_if_eq (tgt := 45) dX12_largest_30 (by decide) (fun h30 => ?_) (fun h30 => ?_)
        · exact absurd h30 (by decide)
        · refine go_aload_n dX12_largest_33 rfl ?_
          refine go_aload_n dX12_largest_34 rfl ?_
          refine go_getR fX12_61 dX12_largest_35 rfl (hq.RO hR _ _ _ rfl) ?_
          refine go_iload_n dX12_largest_38 rfl ?_
          refine go_callV (as := [_, _]) wX12_342 dX12_largest_39 rfl rfl rfl rfl (Nat.le_of_ble_eq_true rfl) (ct_X12_flowOf (hq.RO hR) (hC.q hK0 hq).2.1 hK0.s rfl (WM_R.mpr (hC.q hK0 hq).2.2.1.1) hK0.w (by decide) (by decide) (by decide) hK0.L (hC.q hK0 hq).2.2.2.2.2.2.1 (hC.q hK0 hq).2.2.2.2.2.2.2.1 (hC.q hK0 hq).2.2.2.2.2.2.2.2.1 (by omega) (fun ρ fr h1 h2 => ?_))
          refine go_goto (tgt := 46) dX12_largest_42 (by decide) ?_
          rw [hpf2]
          refine go_istore dX12_largest_46 (Nat.le_of_ble_eq_true rfl) rfl ?_
          refine go_iload dX12_largest_48 rfl ?_
          refine go_iload_n dX12_largest_50 rfl ?_
          refine go_icmp_gt (tgt := 57) dX12_largest_51 (by decide) (fun h51 => ?_) (fun h51 => ?_)
          · rw [iI_lt (by omega)] at h51
            refine go_iload_n dX12_largest_57 rfl ?_
            refine go_istore_n dX12_largest_58 (Nat.le_of_ble_eq_true rfl) rfl ?_
            refine go_iload dX12_largest_59 rfl ?_
            refine go_istore_n dX12_largest_61 (Nat.le_of_ble_eq_true rfl) rfl ?_
            refine go_iincI dX12_largest_62 rfl (Nat.le_of_ble_eq_true rfl) rfl ?_
            refine go_goto (tgt := 11) dX12_largest_65 (by decide) ?_
            simp only [List.set, iI_add]
            have e : lsF X (i + 1) = ((i : Int), pfF X i) := if_pos (by omega)
            have h9 := ih (i + 1) ρ (by omega) (hq.tr (DF.n fr.to h1 h2))
            rw [e] at h9
            exact h9 _
          · rw [iI_lt (by omega)] at h51
            refine go_goto (tgt := 62) dX12_largest_54 (by decide) ?_
            refine go_iincI dX12_largest_62 rfl (Nat.le_of_ble_eq_true rfl) rfl ?_
            refine go_goto (tgt := 11) dX12_largest_65 (by decide) ?_
            simp only [List.set, iI_add]
            have e : lsF X (i + 1) = lsF X i := if_neg (by omega)
            have h9 := ih (i + 1) ρ (by omega) (hq.tr (DF.n fr.to h1 h2))
            rw [e] at h9
            exact h9 _
theorem ct_X12_largest {l : Launch} {D : va_G} {cA ad : Nat → Nat} {d : Nat} {σ : AS} {K : Option Value → AS → Prop} {X : XS} (hR : RO σ) (hK0 : XK X) (hC : MI σ X) (hK : ∀ τ, DF (xL X) σ τ → K (some (.int (iI (largA X)))) τ) : Call l D cA ad (d + 34) mX12_largest [.ref 111] σ K := by
  refine call_go (by decide) (Nat.le_of_ble_eq_true rfl) (show Go l D cA ad (d + 34) mX12_largest 0 [.ref 111, .null, .null, .null, .null] [] σ K from ?_)
  refine go_aload_n dX12_largest_0 rfl ?_
  refine go_iconst (v := iI 0) dX12_largest_1 (by decide) ?_
  refine go_putI fX12_96 rfl dX12_largest_2 rfl rfl rfl ?_
  have hq : DF (xL X) σ (sI σ 111 (upd (σ.1 111) 0 (iI 0))) := DF_f0 DF.rf
  have hR0 := hq.RO hR
  have hC0 := hC.q hK0 hq
  generalize sI σ 111 (upd (σ.1 111) 0 (iI 0)) = τ at hq hR0 hC0 ⊢
  refine go_iconst (v := iI (-1)) dX12_largest_5 (by decide) ?_
  refine go_istore_n dX12_largest_6 (Nat.le_of_ble_eq_true rfl) rfl ?_
  refine go_iconst (v := iI 0) dX12_largest_7 (by decide) ?_
  refine go_istore_n dX12_largest_8 (Nat.le_of_ble_eq_true rfl) rfl ?_
  refine go_iconst (v := iI 0) dX12_largest_9 (by decide) ?_
  refine go_istore_n dX12_largest_10 (Nat.le_of_ble_eq_true rfl) rfl ?_
  simp only [List.set]
  exact mf11 hR0 hK0 hC0 (fun ρ hq2 => hK ρ (hq.tr hq2)) (nQ (xs X)) 0 τ (by omega) DF.rf _

