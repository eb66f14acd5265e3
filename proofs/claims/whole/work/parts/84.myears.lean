/-! the model: years -/
theorem LF.fd {σ τ : AS} (h : LF 111 σ τ) : FD σ τ := ⟨fun k _ => by rw [h.1], fun k hk _ => h.2.2 k hk, fun k j _ => by rw [h.2.1]⟩
theorem MI.l {σ τ : AS} {X : XS} (hC : MI σ X) (h : LF 111 σ τ) : MI τ X := by
  obtain ⟨c1, c2, c3, c4, c5, c6, c7, c8, c9, c10, c11, c12⟩ := hC
  have e := h.1
  refine ⟨?_, ?_, ?_, ?_, ?_, ?_, ?_, ?_, ?_, ?_, ?_, ?_⟩
  · unfold TM; rw [e]; exact c1
  · unfold TwM; rw [e]; exact c2
  · rw [e]; exact c3
  · unfold AcM; rw [e]; exact c4
  · unfold ImM; rw [e]; exact c5
  · unfold MsM; rw [e]; exact c6
  · unfold LsM; rw [e]; exact c7
  · unfold MeM; rw [e, h.2.2 126 (by decide)]; exact c8
  · obtain ⟨ev, he⟩ := c9; exact ⟨ev, fun j hj => by rw [e]; exact he j hj⟩
  · unfold PsM PLM; rw [e]; exact c10
  · rw [e]; exact c11
  · rw [e]; exact c12
theorem ct_X12_draw {l : Launch} {D : va_G} {cA ad : Nat → Nat} {d : Nat} {σ : AS} {K : Option Value → AS → Prop} {m : Nat} {x : Int64} (hm : 1 ≤ m ∧ m ≤ 1000) (hx : σ.2.1 111 41 = x) (hK : ∀ τ, LF 111 σ τ → τ.2.1 111 41 = drS x → K (some (.int (iI (drN (drS x) m)))) τ) : Call l D cA ad d mX12_draw [.ref 111, .int (iI (m : Nat))] σ K := by
  refine call_go (by decide) (Nat.le_of_ble_eq_true rfl) (show Go l D cA ad d mX12_draw 0 [.ref 111, .int (iI (m : Nat))] [] σ K from ?_)
  refine go_aload_n dX12_draw_0 rfl ?_
  refine go_aload_n dX12_draw_1 rfl ?_
  refine go_getL fX12_394 dX12_draw_2 rfl ?_
  rw [hx]
  refine go_ldc2 lX12_398 dX12_draw_5 ?_
  refine go_lmul dX12_draw_8 ?_
  refine go_ldc2 lX12_400 dX12_draw_9 ?_
  refine go_ladd dX12_draw_12 ?_
  refine go_putL fX12_394 rfl dX12_draw_13 rfl rfl rfl ?_
  have hl : LF 111 σ (sL σ 111 (vp_updL (σ.2.1 111) 41 (drS x))) := LF.set
  have e18 : (sL σ 111 (vp_updL (σ.2.1 111) 41 (drS x))).2.1 111 41 = drS x := sL_at
  show Go l D cA ad d mX12_draw 16 _ _ (sL σ 111 (vp_updL (σ.2.1 111) 41 (drS x))) K
  generalize sL σ 111 (vp_updL (σ.2.1 111) 41 (drS x)) = τ at hl e18 ⊢
  refine go_aload_n dX12_draw_16 rfl ?_
  refine go_getL fX12_394 dX12_draw_17 rfl ?_
  rw [e18]
  refine go_bipush (v := iI 33) dX12_draw_20 (by decide) ?_
  refine go_lushr dX12_draw_22 ?_
  refine go_iload_n dX12_draw_23 rfl ?_
  refine go_i2l dX12_draw_24 ?_
  rw [i2l_iI (by omega)]
  refine go_lrem dX12_draw_25 (by rw [lL_0, lL_eq (by omega) (by omega)]; omega) ?_
  refine go_l2i dX12_draw_26 ?_
  refine go_iret rfl rfl dX12_draw_27 ?_
  have h9 := drV (drS x) hm
  unfold drU at h9
  rw [h9]
  exact hK τ hl e18

theorem ym128 {l : Launch} {D : va_G} {cA ad : Nat → Nat} {d : Nat} {σ : AS} {K : Option Value → AS → Prop} {Z : XS} {sd : Int64} {n i : Nat} {rain : Int} {v6 : Value} (hR : RO σ) (hKZ : XK Z) (hC : MI σ Z) (hr : 0 ≤ rain ∧ rain ≤ 1000) (hK2 : ∀ ψ, FD σ ψ → ψ.2.1 111 = σ.2.1 111 → MI ψ (dayX Z rain) → Go l D cA ad (d + 36) mX12_years 29 [.ref 111, .int (iI n), .long sd, .null, .int (iI ((i : Int) + 1)), .int (iI rain), v6] [] ψ K) : Go l D cA ad (d + 36) mX12_years 128 [.ref 111, .int (iI n), .long sd, .null, .int (iI i), .int (iI rain), v6] [] σ K := by
  refine go_aload_n dX12_years_128 rfl ?_
  refine go_aload_n dX12_years_129 rfl ?_
  refine go_getR fX12_61 dX12_years_130 rfl (hR _ _ _ rfl) ?_
  refine go_iload dX12_years_133 rfl ?_
  refine go_callV (as := [_, _]) wX12_391 dX12_years_135 rfl rfl rfl rfl (Nat.le_of_ble_eq_true rfl) (ct_dayM (X := Z) hR hKZ hC hr (fun ψ fe eg hC3 => ?_))
  refine go_iincI dX12_years_138 rfl (Nat.le_of_ble_eq_true rfl) rfl ?_
  refine go_goto (tgt := 29) dX12_years_141 (by decide) ?_
  simp only [List.set, iI_add]
  exact hK2 ψ fe eg hC3
theorem ym29 {l : Launch} {D : va_G} {cA ad : Nat → Nat} {d : Nat} {σ : AS} {K : Option Value → AS → Prop} {X1 : XS} {sd : Int64} {n : Nat} (hn : n ≤ 9999) (hR : RO σ) (hK : ∀ τ, FD σ τ → MI τ X1 → K (some (.int (iI (dy (xw X1))))) τ) : ∀ (r i : Nat) (Y : XS) (τ : AS) (x : Int64) (v5 v6 : Value), r + i = n → FD σ τ → MI τ Y → XK Y → 0 < nP (xs Y) → dy (xw Y) + r ≤ 9999 → τ.2.1 111 41 = x → yrX r x Y = X1 → Go l D cA ad (d + 36) mX12_years 29 [.ref 111, .int (iI n), .long sd, .null, .int (iI i), v5, v6] [] τ K := by
  intro r
  induction r using Nat.strongRecOn with
  | ind r ih =>
  intro i Y τ x v5 v6 hri hf hCY hKY hp hd hx hY
  have hR1 := hf.RO hR
  have hP7 := hKY.s.1
  have ho := hKY.o
  have hk := hKY.k
  refine go_iload dX12_years_29 rfl ?_
  refine go_iload_n dX12_years_31 rfl ?_
  refine go_icmp_ge (tgt := 144) dX12_years_32 (by decide) (fun h32 => ?_) (fun h32 => ?_)
  · rw [iI_le (by omega)] at h32
    refine go_aload_n dX12_years_144 rfl ?_
    refine go_getR fX12_61 dX12_years_145 rfl (hR1 _ _ _ rfl) ?_
    refine go_bipush (v := iI 23) dX12_years_148 (by decide) ?_
    refine go_iald dX12_years_150 rfl (vp_iI (by decide)) ?_
    rw [show (iI 23).toNatClampNeg = 23 by decide, hCY.2.2.1.1.2.2.2]
    refine go_iret rfl rfl dX12_years_151 ?_
    obtain rfl : r = 0 := by omega
    have e1 : Y = X1 := hY
    subst e1
    exact hK τ hf hCY
  · rw [iI_le (by omega)] at h32
    obtain ⟨r, rfl⟩ : ∃ q, r = q + 1 := ⟨r - 1, by omega⟩
    have hz := yr1_ok (x := x) hKY hp (by omega)
    have hy := yrD_ok (x := x) (XK_rem hKY) (Hd_rem Y) hp
    have hs9 := sk09 hKY
    refine go_aload_n dX12_years_35 rfl ?_
    refine go_callV (as := []) wX12_381 dX12_years_36 rfl rfl rfl rfl (Nat.le_of_ble_eq_true rfl) (ct_X12_remember hR1 hKY hCY (fun ρ fc ef hC1 => ?_))
    have hRr := fc.RO hR1
    refine go_aload_n dX12_years_39 rfl ?_
    refine go_getR fX12_37 dX12_years_40 rfl (hRr _ _ _ rfl) ?_
    refine go_iconst (v := iI 0) dX12_years_43 (by decide) ?_
    refine go_iald dX12_years_44 rfl (vp_iI (by decide)) ?_
    rw [cl_0, hC1.2.1.2.2.1 0 (by decide), show skv (xs (remX Y)) 0 = skv (xs Y) 0 from rfl]
    refine go_istore dX12_years_45 (Nat.le_of_ble_eq_true rfl) rfl ?_
    refine go_aload_n dX12_years_47 rfl ?_
    refine go_bipush (v := iI 100) dX12_years_48 (by decide) ?_
    refine go_callV (as := [_]) wX12_402 dX12_years_50 rfl rfl rfl rfl (Nat.le_of_ble_eq_true rfl) (ct_X12_draw (m := 100) (x := x) (by decide) (by rw [ef]; exact hx) (fun τ1 l1 e1 => ?_))
    have hR2 := l1.RO hRr
    have hC2 := hC1.l l1
    have b1 := drN_lt (drS x) (m := 100) (by decide)
    refine go_aload_n dX12_years_53 rfl ?_
    refine go_getI fX12_71 dX12_years_54 rfl ?_
    rw [hC2.2.2.2.2.2.2.2.2.2.2.1, show xo (remX Y) = xo Y from rfl]
    refine go_icmp_ge (tgt := 74) dX12_years_57 (by decide) (fun h57 => ?_) (fun h57 => ?_)
    · rw [iI_le (by omega)] at h57
      refine go_aload_n dX12_years_74 rfl ?_
      refine go_bipush (v := iI 100) dX12_years_75 (by decide) ?_
      refine go_callV (as := [_]) wX12_402 dX12_years_77 rfl rfl rfl rfl (Nat.le_of_ble_eq_true rfl) (ct_X12_draw (m := 100) (x := drS x) (by decide) e1 (fun τ2 l2 e2 => ?_))
      have hR3 := l2.RO hR2
      have hC3 := hC2.l l2
      have b2 := drN_lt (drS (drS x)) (m := 100) (by decide)
      refine go_aload_n dX12_years_80 rfl ?_
      refine go_getI fX12_374 dX12_years_81 rfl ?_
      rw [hC3.2.2.2.2.2.2.2.2.2.2.2, show xk (remX Y) = xk Y from rfl]
      refine go_icmp_ge (tgt := 128) dX12_years_84 (by decide) (fun h84 => ?_) (fun h84 => ?_)
      · rw [iI_le (by omega)] at h84
        have ey : yrD (remX Y) x = _ := yrD_2 (Y := remX Y) (by show ¬ (drN (drS x) 100 : Int) < xo Y; omega) (by show ¬ (drN (drS (drS x)) 100 : Int) < xk Y; omega)
        rw [ey] at hz hy
        have hY2 : yrX r (yrD (remX Y) x).2.2 (dayX (yrD (remX Y) x).1 (skv (xs Y) 0 + (yrD (remX Y) x).2.1)) = X1 := hY
        rw [ey] at hY2
        simp only [Int.add_zero] at hz hY2
        simp only [List.set]
        refine ym128 hR3 hy.1 hC3 (by omega) (fun ψ fe eg hC9 => ?_)
        exact ih r (by omega) (i + 1) _ ψ _ _ _ (by omega) ((((hf.tr fc).tr l1.fd).tr l2.fd).tr fe) hC9 hz.1 (by rw [hz.2.2]; exact hp) (by rw [hz.2.1]; omega) (by rw [eg]; exact e2) hY2
      · rw [iI_le (by omega)] at h84
        refine go_aload_n dX12_years_87 rfl ?_
        refine go_aload_n dX12_years_88 rfl ?_
        refine go_getI fX12_294 dX12_years_89 rfl ?_
        rw [hC3.2.1.1, show nP (xs (remX Y)) = nP (xs Y) from rfl]
        refine go_callV (as := [_]) wX12_402 dX12_years_92 rfl rfl rfl rfl (Nat.le_of_ble_eq_true rfl) (ct_X12_draw (m := nP (xs Y)) (x := drS (drS x)) (by omega) e2 (fun τ3 l3 e3 => ?_))
        have hR4 := l3.RO hR3
        have hC4 := hC3.l l3
        have b3 := drN_lt (drS (drS (drS x))) (m := nP (xs Y)) hp
        have h7 := wk7 hKY.s hKY.w (drN (drS (drS (drS x))) (nP (xs Y)))
        refine go_istore dX12_years_95 (Nat.le_of_ble_eq_true rfl) rfl ?_
        refine go_aload_n dX12_years_97 rfl ?_
        refine go_getR fX12_61 dX12_years_98 rfl (hR4 _ _ _ rfl) ?_
        refine go_iconst (v := iI 3) dX12_years_101 (by decide) ?_
        refine go_iload dX12_years_102 rfl ?_
        refine go_imul dX12_years_104 ?_
        refine go_iconst (v := iI 2) dX12_years_105 (by decide) ?_
        refine go_iadd dX12_years_106 ?_
        rw [iI_mul, iI_add, show 3 * (drN (drS (drS (drS x))) (nP (xs Y)) : Int) + 2 = ((3 * drN (drS (drS (drS x))) (nP (xs Y)) + 2 : Nat) : Int) by omega]
        refine go_iald dX12_years_107 rfl (vp_iI (by omega)) ?_
        rw [cl_n _ (by omega), (hC4.2.2.1.1.1 _ (by omega)).2.2, show xw (remX Y) = xw Y from rfl]
        refine go_bipush (v := iI 9) dX12_years_108 (by decide) ?_
        refine go_icmp_ge (tgt := 128) dX12_years_110 (by decide) (fun h110 => ?_) (fun h110 => ?_)
        · rw [iI_le (by omega)] at h110
          have ey : yrD (remX Y) x = _ := yrD_4 (Y := remX Y) (by show ¬ (drN (drS x) 100 : Int) < xo Y; omega) (by show (drN (drS (drS x)) 100 : Int) < xk Y; omega) (by show ¬ pk (xw Y) (drN (drS (drS (drS x))) (nP (xs Y))) < 9; omega)
          rw [ey] at hz hy
          have hY2 : yrX r (yrD (remX Y) x).2.2 (dayX (yrD (remX Y) x).1 (skv (xs Y) 0 + (yrD (remX Y) x).2.1)) = X1 := hY
          rw [ey] at hY2
          simp only [Int.add_zero] at hz hY2
          simp only [List.set]
          refine ym128 hR4 hy.1 hC4 (by omega) (fun ψ fe eg hC9 => ?_)
          exact ih r (by omega) (i + 1) _ ψ _ _ _ (by omega) (((((hf.tr fc).tr l1.fd).tr l2.fd).tr l3.fd).tr fe) hC9 hz.1 (by rw [hz.2.2]; exact hp) (by rw [hz.2.1]; omega) (by rw [eg]; exact e3) hY2
        · rw [iI_le (by omega)] at h110
          refine go_aload_n dX12_years_113 rfl ?_
          refine go_getR fX12_61 dX12_years_114 rfl (hR4 _ _ _ rfl) ?_
          refine go_iconst (v := iI 3) dX12_years_117 (by decide) ?_
          refine go_iload dX12_years_118 rfl ?_
          refine go_imul dX12_years_120 ?_
          refine go_iconst (v := iI 2) dX12_years_121 (by decide) ?_
          refine go_iadd dX12_years_122 ?_
          rw [iI_mul, iI_add, show 3 * (drN (drS (drS (drS x))) (nP (xs Y)) : Int) + 2 = ((3 * drN (drS (drS (drS x))) (nP (xs Y)) + 2 : Nat) : Int) by omega]
          refine go_dup2 dX12_years_123 rfl rfl ?_
          refine go_iald dX12_years_124 rfl (vp_iI (by omega)) ?_
          rw [cl_n _ (by omega)]
          rw [(hC4.2.2.1.1.1 _ (by omega)).2.2, show xw (remX Y) = xw Y from rfl]
          refine go_iconst (v := iI 1) dX12_years_125 (by decide) ?_
          refine go_iadd dX12_years_126 ?_
          rw [iI_add]
          refine go_iast dX12_years_127 rfl (vp_iI (by omega)) ?_
          have ey : yrD (remX Y) x = _ := yrD_3 (Y := remX Y) (by show ¬ (drN (drS x) 100 : Int) < xo Y; omega) (by show (drN (drS (drS x)) 100 : Int) < xk Y; omega) (by show pk (xw Y) (drN (drS (drS (drS x))) (nP (xs Y))) < 9; omega)
          rw [ey] at hz hy
          have hY2 : yrX r (yrD (remX Y) x).2.2 (dayX (yrD (remX Y) x).1 (skv (xs Y) 0 + (yrD (remX Y) x).2.1)) = X1 := hY
          rw [ey] at hY2
          rw [cl_n _ (by omega)]
          obtain ⟨hC5, fq⟩ := MI_set (w := stkF (xw Y) (drN (drS (drS (drS x))) (nP (xs Y))) 0) hC4 (by unfold stkF; rw [if_pos rfl]; exact WR_p2 (by omega) hC4.2.2.1.1) stkF_dy (fun j hj => upd_ne _ _ _ _ (by omega))
          simp only [Int.add_zero] at hz hY2
          simp only [List.set]
          refine ym128 (fq.RO hR4) hy.1 hC5 (by omega) (fun ψ fe eg hC9 => ?_)
          exact ih r (by omega) (i + 1) _ ψ _ _ _ (by omega) ((((((hf.tr fc).tr l1.fd).tr l2.fd).tr l3.fd).tr fq).tr fe) hC9 hz.1 (by rw [hz.2.2]; exact hp) (by rw [hz.2.1]; omega) (by rw [eg]; exact e3) hY2
    · rw [iI_le (by omega)] at h57
      refine go_iload dX12_years_60 rfl ?_
      refine go_aload_n dX12_years_62 rfl ?_
      refine go_bipush (v := iI 10) dX12_years_63 (by decide) ?_
      refine go_callV (as := [_]) wX12_402 dX12_years_65 rfl rfl rfl rfl (Nat.le_of_ble_eq_true rfl) (ct_X12_draw (m := 10) (x := drS x) (by decide) e1 (fun τ2 l2 e2 => ?_))
      have b2 := drN_lt (drS (drS x)) (m := 10) (by decide)
      refine go_iadd dX12_years_68 ?_
      rw [iI_add]
      refine go_istore dX12_years_69 (Nat.le_of_ble_eq_true rfl) rfl ?_
      refine go_goto (tgt := 128) dX12_years_71 (by decide) ?_
      have ey : yrD (remX Y) x = _ := yrD_1 (Y := remX Y) (by show (drN (drS x) 100 : Int) < xo Y; omega)
      rw [ey] at hz hy
      have hY2 : yrX r (yrD (remX Y) x).2.2 (dayX (yrD (remX Y) x).1 (skv (xs Y) 0 + (yrD (remX Y) x).2.1)) = X1 := hY
      rw [ey] at hY2
      simp only [List.set]
      refine ym128 (l2.RO hR2) hy.1 (hC2.l l2) (by omega) (fun ψ fe eg hC9 => ?_)
      exact ih r (by omega) (i + 1) _ ψ _ _ _ (by omega) ((((hf.tr fc).tr l1.fd).tr l2.fd).tr fe) hC9 hz.1 (by rw [hz.2.2]; exact hp) (by rw [hz.2.1]; omega) (by rw [eg]; exact e2) hY2
theorem ct_X12_years {l : Launch} {D : va_G} {cA ad : Nat → Nat} {d : Nat} {σ : AS} {K : Option Value → AS → Prop} {X : XS} {a : Int} {sd : Int64} (hR : RO σ) (hK0 : XK X) (hC : MI σ X) (ha32 : -2147483648 ≤ a ∧ a < 2147483648) (hK : ∀ τ, FD σ τ → MI τ (yearsX X a sd) → K (some (.int (iI (daysA X a)))) τ) : Call l D cA ad (d + 36) mX12_years [.ref 111, .int (iI a), .long sd] σ K := by
  have hP7 := hK0.s.1
  have hQ9 := hK0.s.2.1
  refine call_go (by decide) (Nat.le_of_ble_eq_true rfl) (show Go l D cA ad (d + 36) mX12_years 0 [.ref 111, .int (iI a), .long sd, .null, .null, .null, .null] [] σ K from ?_)
  refine go_aload_n dX12_years_0 rfl ?_
  refine go_iconst (v := iI 0) dX12_years_1 (by decide) ?_
  refine go_putI fX12_96 rfl dX12_years_2 rfl rfl rfl ?_
  have hq : DF (xL X) σ (sI σ 111 (upd (σ.1 111) 0 (iI 0))) := DF_f0 DF.rf
  have hR0 := hq.RO hR
  have hC0 := hC.q hK0 hq
  generalize sI σ 111 (upd (σ.1 111) 0 (iI 0)) = τ at hq hR0 hC0 ⊢
  refine go_aload_n dX12_years_5 rfl ?_
  refine go_aload_n dX12_years_6 rfl ?_
  refine go_getR fX12_61 dX12_years_7 rfl (hR0 _ _ _ rfl) ?_
  refine go_iload_n dX12_years_10 rfl ?_
  refine go_bipush (v := iI 60) dX12_years_11 (by decide) ?_
  refine go_callV (as := [_, _, _]) wX12_388 dX12_years_13 rfl rfl rfl rfl (Nat.le_of_ble_eq_true rfl) (ct_X12_mayPass hR0 hC0.2.1 hK0.s rfl (WM_R.mpr hC0.2.2.1.1) hK0.w ha32 (by decide) (fun hc => ?_) (fun hc => ?_))
  · refine go_if_ne (tgt := 21) dX12_years_16 (by decide) (fun h16 => ?_) (fun h16 => ?_)
    · refine go_aload_n dX12_years_21 rfl ?_
      refine go_lload_n dX12_years_22 rfl ?_
      refine go_putL fX12_394 rfl dX12_years_23 rfl rfl rfl ?_
      refine go_iconst (v := iI 0) dX12_years_26 (by decide) ?_
      refine go_istore dX12_years_27 (Nat.le_of_ble_eq_true rfl) rfl ?_
      obtain ⟨n, rfl⟩ : ∃ n : Nat, a = n := ⟨a.toNat, by omega⟩
      have h8 := (yrX_ok n sd X hK0 hc.2.1 (by omega)).2
      have e1 : yearsX X n sd = yrX n sd X := by unfold yearsX; rw [if_pos hc]; rfl
      have e2 : daysA X n = (dy (xw (yrX n sd X)) : Int) := by unfold daysA; rw [if_pos hc, h8]; omega
      rw [e1, e2] at hK
      simp only [List.set]
      exact ym29 (X1 := yrX n sd X) (by omega) hR0 (fun ρ f h => hK ρ (hq.1.tr f) h) n 0 X _ sd _ _ (by omega) LF.set.fd (hC0.l LF.set) hK0 hc.2.1 (by omega) sL_at rfl
    · exact absurd h16 (by decide)
  · refine go_if_ne (tgt := 21) dX12_years_16 (by decide) (fun h16 => ?_) (fun h16 => ?_)
    · exact absurd h16 (by decide)
    · refine go_iconst (v := iI (-1)) dX12_years_19 (by decide) ?_
      refine go_iret rfl rfl dX12_years_20 ?_
      have e1 : yearsX X a sd = X := by unfold yearsX; rw [if_neg hc]
      have e2 : daysA X a = -1 := by unfold daysA; rw [if_neg hc]
      rw [e1, e2] at hK
      exact hK τ hq.1 hC0

