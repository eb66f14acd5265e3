/-! the model: run, perform -/
theorem sg43 {l : Launch} {D : va_G} {cA ad : Nat → Nat} {d : Nat} {σ : AS} {K : Option Value → AS → Prop} {X : XS} {W1 : WT} {n row : Nat} (hR : RO σ) (hK0 : XK X) (hC : MI σ X) (hn9 : n ≤ 9) (hK : ∀ τ n6, DF (xL X) σ τ → WM τ 125 W1 → τ.1 125 24 = iI (n6 : Nat) → n6 ≤ 60 → K none τ) : ∀ (r j : Nat) (w : WT) (τ : AS) (n6 : Nat), r + j = n → DF (xL X) σ τ → WM τ 125 w → WK (xs X) w → dy w + r ≤ 10000 → τ.1 125 24 = iI n6 → n6 ≤ 60 → daysF (xs X) (xv X) r w = W1 → Go l D cA ad (d + 36) mX12_steps 43 [.ref 111, .ref 125, .int (iI row), .int (iI n), .int (iI j)] [] τ K := by
  intro r
  induction r using Nat.strongRecOn with
  | ind r ih =>
  intro j w τ n6 hr hq hW hw hd hn hn6 hres
  refine go_iload dX12_steps_43 rfl ?_
  refine go_iload_n dX12_steps_45 rfl ?_
  refine go_icmp_ge (tgt := 66) dX12_steps_46 (by decide) (fun h46 => ?_) (fun h46 => ?_)
  · rw [iI_le (by omega)] at h46
    refine go_goto (tgt := 100) dX12_steps_66 (by decide) ?_
    refine go_vret rfl dX12_steps_100 ?_
    obtain rfl : r = 0 := by omega
    have e1 : w = W1 := hres
    subst e1
    exact hK τ n6 hq hW hn hn6
  · rw [iI_le (by omega)] at h46
    refine go_aload_n dX12_steps_49 rfl ?_
    refine go_aload_n dX12_steps_50 rfl ?_
    refine go_aload_n dX12_steps_51 rfl ?_
    refine go_getR fX12_37 dX12_steps_52 rfl (hq.RO hR _ _ _ rfl) ?_
    refine go_iconst (v := iI 0) dX12_steps_55 (by decide) ?_
    refine go_iald dX12_steps_56 rfl (vp_iI (by decide)) ?_
    rw [cl_0, (hC.q hK0 hq).2.1.2.2.1 0 (by decide)]
    refine go_callV (as := [_, _]) wX12_391 dX12_steps_57 rfl rfl rfl rfl (Nat.le_of_ble_eq_true rfl) (ct_X12_goDay hK0.s rfl (Or.inr rfl) hK0.L ((hC.q hK0 hq).ms (hq.RO hR)) hW hw (by have := sk09 hK0; omega) (by omega) hn hn6 (fun ρ r2 n' off fr hM2 hr2 h59 hcs hlr => ?_))
    refine go_iincI dX12_steps_60 rfl (Nat.le_of_ble_eq_true rfl) rfl ?_
    refine go_goto (tgt := 43) dX12_steps_63 (by decide) ?_
    obtain ⟨r, rfl⟩ : ∃ q, r = q + 1 := ⟨r - 1, by omega⟩
    have hd1 := dayF_ok (hv := xv X) hK0.s hw (sk09 hK0).1 (by omega)
    simp only [List.set, iI_add]
    exact ih r (by omega) (j + 1) _ _ (n' + 1) (by omega) (DF_t (hq.tr (DF.n fr hM2.2.2.2.1 hM2.2.2.2.2))) (by rw [WM_R, sI_same]; exact hr2) hd1.1 (by rw [hd1.2.2]; omega) (by rw [sI_same]; exact hlr.1) (by omega) hres
theorem ct_steps2 {l : Launch} {D : va_G} {cA ad : Nat → Nat} {d : Nat} {σ : AS} {K : Option Value → AS → Prop} {X : XS} {w : WT} {row n n0 : Nat} (hR : RO σ) (hK0 : XK X) (hC : MI σ X) (hW : WM σ 125 w) (hw : WK (xs X) w) (hr : row + 2 < 240) (hn9 : n ≤ 9) (hd : dy w + n ≤ 10000) (hn0 : σ.1 125 24 = iI n0) (hn6 : n0 ≤ 60) (h1 : σ.1 122 row = iI 2) (h2 : σ.1 122 (row + 1) = iI (n : Nat)) (hK : ∀ τ n6, DF (xL X) σ τ → WM τ 125 (daysF (xs X) (xv X) n w) → τ.1 125 24 = iI (n6 : Nat) → n6 ≤ 60 → K none τ) : Call l D cA ad (d + 36) mX12_steps [.ref 111, .ref 125, .int (iI row)] σ K := by
  refine call_go (by decide) (Nat.le_of_ble_eq_true rfl) (show Go l D cA ad (d + 36) mX12_steps 0 [.ref 111, .ref 125, .int (iI row), .null, .null] [] σ K from ?_)
  refine go_aload_n dX12_steps_0 rfl ?_
  refine go_getR fX12_55 dX12_steps_1 rfl (hR _ _ _ rfl) ?_
  refine go_iload_n dX12_steps_4 rfl ?_
  refine go_iconst (v := iI 1) dX12_steps_5 (by decide) ?_
  refine go_iadd dX12_steps_6 ?_
  rw [iI_add, show (row : Int) + 1 = ((row + 1 : Nat) : Int) by omega]
  refine go_iald dX12_steps_7 rfl (vp_iI (by omega)) ?_
  rw [cl_n _ (by omega), h2]
  refine go_istore_n dX12_steps_8 (Nat.le_of_ble_eq_true rfl) rfl ?_
  refine go_aload_n dX12_steps_9 rfl ?_
  refine go_getR fX12_55 dX12_steps_10 rfl (hR _ _ _ rfl) ?_
  refine go_iload_n dX12_steps_13 rfl ?_
  refine go_iald dX12_steps_14 rfl (vp_iI (by omega)) ?_
  rw [cl_n _ (by omega), h1]
  refine go_look (off := 25) (tgt := 40) dX12_steps_15 (by decide) (by decide) (by decide) ?_
  refine go_iconst (v := iI 0) dX12_steps_40 (by decide) ?_
  refine go_istore dX12_steps_41 (Nat.le_of_ble_eq_true rfl) rfl ?_
  simp only [List.set]
  exact sg43 hR hK0 hC (by omega) hK n 0 w σ n0 (by omega) DF.rf hW hw hd hn0 hn6 rfl

theorem ct_stepsT {l : Launch} {D : va_G} {cA ad : Nat → Nat} {d : Nat} {σ : AS} {K : Option Value → AS → Prop} {X : XS} {w : WT} {row n0 : Nat} {x : ST} (hR : RO σ) (hK0 : XK X) (hC : MI σ X) (hW : WM σ 125 w) (hw : WK (xs X) w) (hd : dy w ≤ 9999) (hr : row + 2 < 240) (hx : stOKp x) (h : σ.1 122 row = iI x.1 ∧ σ.1 122 (row + 1) = iI x.2.1 ∧ σ.1 122 (row + 2) = iI x.2.2) (hcan : canSt (xs X) w x) (hn0 : σ.1 125 24 = iI n0) (hn6 : n0 ≤ 60) (hK : ∀ τ n6, DF (xL X) σ τ → WM τ 125 (stW (xs X) (xv X) w x) → τ.1 125 24 = iI (n6 : Nat) → n6 ≤ 60 → K none τ) : Call l D cA ad (d + 36) mX12_steps [.ref 111, .ref 125, .int (iI row)] σ K := by
  by_cases h2 : x.1 = 2
  · obtain ⟨n, hn⟩ : ∃ n : Nat, x.2.1 = n := ⟨x.2.1.toNat, by have := hx.2.2.1; omega⟩
    have hst : stW (xs X) (xv X) w x = daysF (xs X) (xv X) n w := by unfold stW; rw [if_pos h2, hn, Int.toNat_natCast]
    rw [hst] at hK
    have hn9 : n ≤ 9 := by have := hx.2.2.2.1; omega
    have h1 := h.1
    rw [h2] at h1
    have h3 := h.2.1
    rw [hn] at h3
    unfold canSt at hcan
    rw [if_neg (by omega), if_neg (by omega), if_pos h2, hn] at hcan
    exact ct_steps2 hR hK0 hC hW hw hr hn9 (by omega) hn0 hn6 h1 h3 hK
  · have hst : stW (xs X) (xv X) w x = tkW w x := by unfold stW; rw [if_neg h2]
    rw [hst] at hK
    refine ct_stepsH hR hK0.s rfl hW hw hr hx h hcan h2 (fun r hr2 hr3 => hK _ n0 (DF_t DF.rf) (by rw [WM_R, sI_same]; exact hr2) ?_ hn6)
    rw [sI_same, hr3 24 (by decide)]
    exact hn0
theorem mr98 {l : Launch} {D : va_G} {cA ad : Nat → Nat} {d : Nat} {σ : AS} {K : Option Value → AS → Prop} {X : XS} {w : WT} {n i : Nat} {j : Int} {L : List ST} {τ : AS} (hR : RO σ) (hK0 : XK X) (hC : MI σ X) (hn4 : n < 4) (hL : (xp X)[n]? = some L) (hl16 : L.length ≤ 16) (hil : i ≤ L.length) (hj : 0 ≤ j ∧ j ≤ 1) (hq : DF (xL X) σ τ) (hW : WM τ 125 w) (hw : WK (xs X) w) (hK : ∀ τ, DF (xL X) σ τ → K (some (.int (iI (if j = 1 then (barF (xs X) w : Int) else if i = L.length then -1 else (i : Int))))) τ) : Go l D cA ad (d + 2) mX12_run 98 [.ref 111, .int (iI n), .int (iI j), .int (iI i)] [] τ K := by
  have hPL := ((hC.q hK0 hq).2.2.2.2.2.2.2.2.2.1.2 n L hL)
  refine go_iload_n dX12_run_98 rfl ?_
  refine go_iconst (v := iI 1) dX12_run_99 (by decide) ?_
  refine go_icmp_ne (tgt := 112) dX12_run_100 (by decide) (fun h100 => ?_) (fun h100 => ?_)
  · rw [iI_eq (by omega)] at h100
    refine go_iload_n dX12_run_112 rfl ?_
    refine go_aload_n dX12_run_113 rfl ?_
    refine go_getR fX12_58 dX12_run_114 rfl (hq.RO hR _ _ _ rfl) ?_
    refine go_iload_n dX12_run_117 rfl ?_
    refine go_iald dX12_run_118 rfl (vp_iI (by omega)) ?_
    rw [cl_n _ (by omega), hPL.2]
    refine go_icmp_ne (tgt := 126) dX12_run_119 (by decide) (fun h119 => ?_) (fun h119 => ?_)
    · rw [iI_eq (by omega)] at h119
      refine go_iload_n dX12_run_126 rfl ?_
      refine go_iret rfl rfl dX12_run_127 ?_
      rw [if_neg h100, if_neg (by omega)] at hK
      exact hK τ hq
    · rw [iI_eq (by omega)] at h119
      refine go_iconst (v := iI (-1)) dX12_run_122 (by decide) ?_
      refine go_goto (tgt := 127) dX12_run_123 (by decide) ?_
      refine go_iret rfl rfl dX12_run_127 ?_
      rw [if_neg h100, if_pos (by omega)] at hK
      exact hK τ hq
  · rw [iI_eq (by omega)] at h100
    refine go_aload_n dX12_run_103 rfl ?_
    refine go_aload_n dX12_run_104 rfl ?_
    refine go_getR fX12_64 dX12_run_105 rfl (hq.RO hR _ _ _ rfl) ?_
    refine go_callV (as := [_]) wX12_360 dX12_run_108 rfl rfl rfl rfl (Nat.le_of_ble_eq_true rfl) (ct_X12_bareIn (hq.RO hR) (hC.q hK0 hq).2.1 hK0.s rfl hW hw ?_)
    refine go_iret rfl rfl dX12_run_111 ?_
    rw [if_pos h100] at hK
    exact hK τ hq
theorem mr47 {l : Launch} {D : va_G} {cA ad : Nat → Nat} {d : Nat} {σ : AS} {K : Option Value → AS → Prop} {X : XS} {W1 : WT} {n N : Nat} {j : Int} {L : List ST} (hR : RO σ) (hK0 : XK X) (hC : MI σ X) (hn4 : n < 4) (hL : (xp X)[n]? = some L) (hLk : LOK L) (hj : 0 ≤ j ∧ j ≤ 1) (hK : ∀ τ, DF (xL X) σ τ → K (some (.int (iI (if j = 1 then (barF (xs X) W1 : Int) else if N = L.length then -1 else (N : Int))))) τ) : ∀ (R : List ST) (i : Nat) (w : WT) (τ : AS) (n6 : Nat), L.drop i = R → DF (xL X) σ τ → WM τ 125 w → WK (xs X) w → dy w ≤ 9999 → τ.1 125 24 = iI n6 → n6 ≤ 60 → i ≤ L.length → i + (runF (xs X) (xv X) R w).1 = N → (runF (xs X) (xv X) R w).2 = W1 → Go l D cA ad (d + 37) mX12_run 47 [.ref 111, .int (iI n), .int (iI j), .int (iI i)] [] τ K := by
  have hl16 := hLk.1
  intro R
  induction R with
  | nil =>
    intro i w τ n6 hR2 hq hW hw hd hn0 hn6 hi hres hres2
    have hPL := ((hC.q hK0 hq).2.2.2.2.2.2.2.2.2.1.2 n L hL)
    have hil := drop_nil hR2 hi
    refine go_iload_n dX12_run_47 rfl ?_
    refine go_aload_n dX12_run_48 rfl ?_
    refine go_getR fX12_58 dX12_run_49 rfl (hq.RO hR _ _ _ rfl) ?_
    refine go_iload_n dX12_run_52 rfl ?_
    refine go_iald dX12_run_53 rfl (vp_iI (by omega)) ?_
    rw [cl_n _ (by omega), hPL.2]
    refine go_icmp_ge (tgt := 98) dX12_run_54 (by decide) (fun h54 => ?_) (fun h54 => ?_)
    · have e1 : i = N := hres
      have e2 : w = W1 := hres2
      subst e1; subst e2
      exact mr98 hR hK0 hC hn4 hL hl16 hi hj hq hW hw hK
    · exfalso
      rw [iI_le (by omega)] at h54
      omega
  | cons x R ih =>
    intro i w τ n6 hR2 hq hW hw hd hn0 hn6 hi hres hres2
    have hPL := ((hC.q hK0 hq).2.2.2.2.2.2.2.2.2.1.2 n L hL)
    have hx := drop_cons hR2
    have hil := hx.2.2
    have hxx := hPL.1 i x hx.1
    have hxk := hLk.2 x (List.mem_of_getElem? hx.1)
    refine go_iload_n dX12_run_47 rfl ?_
    refine go_aload_n dX12_run_48 rfl ?_
    refine go_getR fX12_58 dX12_run_49 rfl (hq.RO hR _ _ _ rfl) ?_
    refine go_iload_n dX12_run_52 rfl ?_
    refine go_iald dX12_run_53 rfl (vp_iI (by omega)) ?_
    rw [cl_n _ (by omega), hPL.2]
    refine go_icmp_ge (tgt := 98) dX12_run_54 (by decide) (fun h54 => ?_) (fun h54 => ?_)
    · exfalso
      rw [iI_le (by omega)] at h54
      omega
    · refine go_aload_n dX12_run_57 rfl ?_
      refine go_aload_n dX12_run_58 rfl ?_
      refine go_getR fX12_64 dX12_run_59 rfl (hq.RO hR _ _ _ rfl) ?_
      refine go_iconst (v := iI 3) dX12_run_62 (by decide) ?_
      refine go_bipush (v := iI 16) dX12_run_63 (by decide) ?_
      refine go_iload_n dX12_run_65 rfl ?_
      refine go_imul dX12_run_66 ?_
      refine go_iload_n dX12_run_67 rfl ?_
      refine go_iadd dX12_run_68 ?_
      refine go_imul dX12_run_69 ?_
      rw [iI_mul, iI_add, iI_mul, show 3 * (16 * (n : Int) + (i : Int)) = ((3 * (16 * n + i) : Nat) : Int) by omega]
      refine go_callV (as := [_, _]) wX12_413 dX12_run_70 rfl rfl rfl rfl (Nat.le_of_ble_eq_true rfl) (ct_canStepS (hq.RO hR) (hC.q hK0 hq).2.1 hK0.s rfl hW hw (by omega) hxk hxx (fun hc => ?_) (fun hc => ?_))
      · refine go_if_eq (tgt := 98) dX12_run_73 (by decide) (fun h73 => ?_) (fun h73 => ?_)
        · exact absurd h73 (by decide)
        · refine go_aload_n dX12_run_76 rfl ?_
          refine go_aload_n dX12_run_77 rfl ?_
          refine go_getR fX12_64 dX12_run_78 rfl (hq.RO hR _ _ _ rfl) ?_
          refine go_iconst (v := iI 3) dX12_run_81 (by decide) ?_
          refine go_bipush (v := iI 16) dX12_run_82 (by decide) ?_
          refine go_iload_n dX12_run_84 rfl ?_
          refine go_imul dX12_run_85 ?_
          refine go_iload_n dX12_run_86 rfl ?_
          refine go_iadd dX12_run_87 ?_
          refine go_imul dX12_run_88 ?_
          rw [iI_mul, iI_add, iI_mul, show 3 * (16 * (n : Int) + (i : Int)) = ((3 * (16 * n + i) : Nat) : Int) by omega]
          refine go_callV (as := [_, _]) wX12_417 dX12_run_89 rfl rfl rfl rfl (Nat.le_of_ble_eq_true rfl) (ct_stepsT (hq.RO hR) hK0 (hC.q hK0 hq) hW hw hd (by omega) hxk hxx hc hn0 hn6 (fun ρ n7 hq2 hW2 hn7 hn8 => ?_))
          refine go_iincI dX12_run_92 rfl (Nat.le_of_ble_eq_true rfl) rfl ?_
          refine go_goto (tgt := 47) dX12_run_95 (by decide) ?_
          have hok := stW_ok (hv := xv X) hK0.s hw hd hc
          rw [runF_y hc] at hres hres2
          simp only [List.set, iI_add]
          exact ih (i + 1) _ ρ n7 hx.2.1 (hq.tr hq2) hW2 hok.1 hok.2 hn7 hn8 (by omega) (by rw [← hres]; omega) hres2
      · refine go_if_eq (tgt := 98) dX12_run_73 (by decide) (fun h73 => ?_) (fun h73 => ?_)
        · rw [runF_n hc] at hres hres2
          have e1 : i = N := hres
          have e2 : w = W1 := hres2
          subst e1; subst e2
          exact mr98 hR hK0 hC hn4 hL hl16 hi hj hq hW hw hK
        · exact absurd h73 (by decide)
theorem ct_X12_run {l : Launch} {D : va_G} {cA ad : Nat → Nat} {d : Nat} {σ : AS} {K : Option Value → AS → Prop} {X : XS} {a j : Int} (hR : RO σ) (hK0 : XK X) (hC : MI σ X) (ha32 : -2147483648 ≤ a ∧ a < 2147483648) (hj32 : -2147483648 ≤ j ∧ j < 2147483648) (hK : ∀ τ, DF (xL X) σ τ → K (some (.int (iI (runA X a j)))) τ) : Call l D cA ad (d + 37) mX12_run [.ref 111, .int (iI a), .int (iI j)] σ K := by
  have hP7 := hK0.s.1
  have hQ9 := hK0.s.2.1
  refine call_go (by decide) (Nat.le_of_ble_eq_true rfl) (show Go l D cA ad (d + 37) mX12_run 0 [.ref 111, .int (iI a), .int (iI j), .null] [] σ K from ?_)
  refine go_aload_n dX12_run_0 rfl ?_
  refine go_iconst (v := iI 0) dX12_run_1 (by decide) ?_
  refine go_putI fX12_96 rfl dX12_run_2 rfl rfl rfl ?_
  have hq : DF (xL X) σ (sI σ 111 (upd (σ.1 111) 0 (iI 0))) := DF_f0 DF.rf
  have hR0 := hq.RO hR
  have hC0 := hC.q hK0 hq
  generalize sI σ 111 (upd (σ.1 111) 0 (iI 0)) = τ at hq hR0 hC0 ⊢
  refine go_aload_n dX12_run_5 rfl ?_
  refine go_iload_n dX12_run_6 rfl ?_
  refine go_callV (as := [_]) wX12_405 dX12_run_7 rfl rfl rfl rfl (Nat.le_of_ble_eq_true rfl) (ct_X12_isPlan hR0 hK0 hC0 ha32 (fun n L hn hL => ?_) (fun hx => ?_))
  · refine go_if_eq (tgt := 30) dX12_run_10 (by decide) (fun h10 => ?_) (fun h10 => ?_)
    · exact absurd h10 (by decide)
    · subst hn
      have hnl := (List.getElem?_eq_some_iff.mp hL).1
      have hp4 := hK0.p.1
      have hPL := hC0.2.2.2.2.2.2.2.2.2.1.2 n L hL
      have hLk := hK0.p.2 L (List.mem_of_getElem? hL)
      have hl16 := hLk.1
      refine go_aload_n dX12_run_13 rfl ?_
      refine go_getI fX12_294 dX12_run_14 rfl ?_
      refine go_if_eq (tgt := 30) dX12_run_17 (by decide) (fun h17 => ?_) (fun h17 => ?_)
      · rw [hC0.2.1.1, iI_eq0 (by omega)] at h17
        refine go_ldcw lX12_408 dX12_run_30 ?_
        refine go_iret rfl rfl dX12_run_33 ?_
        rw [runA_m hL (by omega)] at hK
        exact hK τ hq
      · rw [hC0.2.1.1, iI_eq0 (by omega)] at h17
        refine go_iload_n dX12_run_20 rfl ?_
        refine go_i2l dX12_run_21 ?_
        rw [i2l_iI (by omega)]
        refine go_lconst (v := 0) dX12_run_22 (by decide) ?_
        refine go_lconst (v := 1) dX12_run_23 (by decide) ?_
        refine go_callS (as := [_, _, _]) wX12_217 dX12_run_24 rfl rfl (Nat.le_of_ble_eq_true rfl) (ct_isIn2 (x := 0) (y := 1) (by decide) (by decide) (by omega) (fun hj => ?_) (fun hj => ?_))
        · refine go_if_ne (tgt := 34) dX12_run_27 (by decide) (fun h27 => ?_) (fun h27 => ?_)
          · refine go_aload_n dX12_run_34 rfl ?_
            refine go_getR fX12_61 dX12_run_35 rfl (hR0 _ _ _ rfl) ?_
            refine go_aload_n dX12_run_38 rfl ?_
            refine go_getR fX12_64 dX12_run_39 rfl (hR0 _ _ _ rfl) ?_
            refine go_callS (as := [_, _]) wX12_409 dX12_run_42 rfl rfl (Nat.le_of_ble_eq_true rfl) (ct_X12_copy (a := 124) (b := 125) (w := xw X) (lg := xl X) rfl rfl (by decide) hC0.2.2.1 (fun r hr => ?_))
            refine go_iconst (v := iI 0) dX12_run_45 (by decide) ?_
            refine go_istore_n dX12_run_46 (Nat.le_of_ble_eq_true rfl) rfl ?_
            have hyy := runA_y (j := j) hL (by omega)
            rw [hyy] at hK
            have hl := lgn_le (dy (xw X))
            simp only [List.set]
            exact mr47 (W1 := (runF (xs X) (xv X) L (xw X)).2) (N := (runF (xs X) (xv X) L (xw X)).1) hR0 hK0 hC0 (by omega) hL hLk hj (fun ρ h => hK ρ (hq.tr h)) L 0 (xw X) _ (lgn (dy (xw X))) rfl (DF_t DF.rf) (by rw [WM_R, sI_same]; exact hr.1) hK0.w hK0.d (by rw [sI_same]; exact hr.2.1) (by omega) (Nat.zero_le _) (Nat.zero_add _) rfl
          · exact absurd h27 (by decide)
        · refine go_if_ne (tgt := 34) dX12_run_27 (by decide) (fun h27 => ?_) (fun h27 => ?_)
          · exact absurd h27 (by decide)
          · refine go_ldcw lX12_408 dX12_run_30 ?_
            refine go_iret rfl rfl dX12_run_33 ?_
            rw [runA_m hL (by omega)] at hK
            exact hK τ hq
  · refine go_if_eq (tgt := 30) dX12_run_10 (by decide) (fun h10 => ?_) (fun h10 => ?_)
    · refine go_ldcw lX12_408 dX12_run_30 ?_
      refine go_iret rfl rfl dX12_run_33 ?_
      rw [runA_n hx] at hK
      exact hK τ hq
    · exact absurd h10 (by decide)

theorem acS_h {X : XS} {x : ST} (h : x.1 ≠ 2) : acS X x = setW (remX X) (tkW (xw X) x) := by
  unfold acS tkW
  split
  · rfl
  · split
    · rfl
    · first | rfl | (split; exact absurd (by assumption) h; rfl)
theorem ps26 {l : Launch} {D : va_G} {cA ad : Nat → Nat} {d : Nat} {σ : AS} {K : Option Value → AS → Prop} {X1 : XS} {n i m : Nat} {L : List ST} {x : ST} (hR : RO σ) (hn4 : n < 4) (hi : i < 16) (hx : L[i]? = some x) (hm : x.2.1 = m) (hm9 : m ≤ 9) (hK : ∀ τ, FD σ τ → MI τ X1 → K none τ) : ∀ (r j : Nat) (Y : XS) (τ : AS), r + j = m → FD σ τ → MI τ Y → XK Y → dy (xw Y) + r ≤ 9999 → (xp Y)[n]? = some L → daysX r Y = X1 → Go l D cA ad (d + 36) mX12_performs 26 [.ref 111, .int (iI ((3 * (16 * n + i) : Nat) : Int)), .int (iI j)] [] τ K := by
  intro r
  induction r using Nat.strongRecOn with
  | ind r ih =>
  intro j Y τ hri hf hCY hKY hd hLY hY
  have hxx := (hCY.2.2.2.2.2.2.2.2.2.1.2 n L hLY).1 i x hx
  refine go_iload_n dX12_performs_26 rfl ?_
  refine go_aload_n dX12_performs_27 rfl ?_
  refine go_getR fX12_55 dX12_performs_28 rfl (hf.RO hR _ _ _ rfl) ?_
  refine go_iload_n dX12_performs_31 rfl ?_
  refine go_iconst (v := iI 1) dX12_performs_32 (by decide) ?_
  refine go_iadd dX12_performs_33 ?_
  rw [iI_add, show ((3 * (16 * n + i) : Nat) : Int) + 1 = ((3 * (16 * n + i) + 1 : Nat) : Int) by omega]
  refine go_iald dX12_performs_34 rfl (vp_iI (by omega)) ?_
  rw [cl_n _ (by omega), hxx.2.1, hm]
  refine go_icmp_ge (tgt := 62) dX12_performs_35 (by decide) (fun h35 => ?_) (fun h35 => ?_)
  · rw [iI_le (by omega)] at h35
    refine go_vret rfl dX12_performs_62 ?_
    obtain rfl : r = 0 := by omega
    have e1 : Y = X1 := hY
    subst e1
    exact hK τ hf hCY
  · rw [iI_le (by omega)] at h35
    refine go_aload_n dX12_performs_38 rfl ?_
    refine go_callV (as := []) wX12_381 dX12_performs_39 rfl rfl rfl rfl (Nat.le_of_ble_eq_true rfl) (ct_X12_remember (hf.RO hR) hKY hCY (fun ρ fc ef hC1 => ?_))
    refine go_aload_n dX12_performs_42 rfl ?_
    refine go_aload_n dX12_performs_43 rfl ?_
    refine go_getR fX12_61 dX12_performs_44 rfl (fc.RO (hf.RO hR) _ _ _ rfl) ?_
    refine go_aload_n dX12_performs_47 rfl ?_
    refine go_getR fX12_37 dX12_performs_48 rfl (fc.RO (hf.RO hR) _ _ _ rfl) ?_
    refine go_iconst (v := iI 0) dX12_performs_51 (by decide) ?_
    refine go_iald dX12_performs_52 rfl (vp_iI (by decide)) ?_
    rw [cl_0, hC1.2.1.2.2.1 0 (by decide), show skv (xs (remX Y)) 0 = skv (xs Y) 0 from rfl]
    refine go_callV (as := [_, _]) wX12_391 dX12_performs_53 rfl rfl rfl rfl (Nat.le_of_ble_eq_true rfl) (ct_dayM (fc.RO (hf.RO hR)) (XK_rem hKY) hC1 (by have := sk09 hKY; omega) (fun ψ fd eg hC2 => ?_))
    refine go_iincI dX12_performs_56 rfl (Nat.le_of_ble_eq_true rfl) rfl ?_
    refine go_goto (tgt := 26) dX12_performs_59 (by decide) ?_
    obtain ⟨r, rfl⟩ : ∃ q, r = q + 1 := ⟨r - 1, by omega⟩
    have hz := XK_rd hKY (sk09 hKY).1 (by omega)
    simp only [List.set, iI_add]
    exact ih r (by omega) (j + 1) _ _ (by omega) ((hf.tr fc).tr fd) hC2 hz.1 (by rw [hz.2]; omega) hLY hY
theorem ct_X12_performs {l : Launch} {D : va_G} {cA ad : Nat → Nat} {d : Nat} {σ : AS} {K : Option Value → AS → Prop} {X : XS} {n i : Nat} {L : List ST} {x : ST} (hR : RO σ) (hK0 : XK X) (hC : MI σ X) (hn4 : n < 4) (hi : i < 16) (hL : (xp X)[n]? = some L) (hx : L[i]? = some x) (hxk : stOKp x) (hcan : canSt (xs X) (xw X) x) (hK : ∀ τ, FD σ τ → MI τ (acS X x) → K none τ) : Call l D cA ad (d + 36) mX12_performs [.ref 111, .int (iI ((3 * (16 * n + i) : Nat) : Int))] σ K := by
  have hxx := (hC.2.2.2.2.2.2.2.2.2.1.2 n L hL).1 i x hx
  refine call_go (by decide) (Nat.le_of_ble_eq_true rfl) (show Go l D cA ad (d + 36) mX12_performs 0 [.ref 111, .int (iI ((3 * (16 * n + i) : Nat) : Int)), .null] [] σ K from ?_)
  refine go_aload_n dX12_performs_0 rfl ?_
  refine go_getR fX12_55 dX12_performs_1 rfl (hR _ _ _ rfl) ?_
  refine go_iload_n dX12_performs_4 rfl ?_
  refine go_iald dX12_performs_5 rfl (vp_iI (by omega)) ?_
  rw [cl_n _ (by omega), hxx.1]
  refine go_iconst (v := iI 2) dX12_performs_6 (by decide) ?_
  refine go_icmp_eq (tgt := 24) dX12_performs_7 (by decide) (fun h7 => ?_) (fun h7 => ?_)
  · rw [iI_eq (by have := hxk.1; have := hxk.2.1; omega)] at h7
    refine go_iconst (v := iI 0) dX12_performs_24 (by decide) ?_
    refine go_istore_n dX12_performs_25 (Nat.le_of_ble_eq_true rfl) rfl ?_
    obtain ⟨m, hm⟩ : ∃ m : Nat, x.2.1 = m := ⟨x.2.1.toNat, by have := hxk.2.2.1; omega⟩
    have hac : acS X x = daysX m X := by unfold acS; rw [if_neg (by omega), if_neg (by omega), if_pos h7, hm, Int.toNat_natCast]
    have hd2 : dy (xw X) + m ≤ 9999 := by
      unfold canSt at hcan
      rw [if_neg (by omega), if_neg (by omega), if_pos h7, hm] at hcan
      omega
    rw [hac] at hK
    simp only [List.set]
    exact ps26 hR hn4 hi hx hm (by have := hxk.2.2.2.1; omega) hK m 0 X σ (by omega) FD.rf hC hK0 hd2 hL rfl
  · rw [iI_eq (by have := hxk.1; have := hxk.2.1; omega)] at h7
    have h2 : x.1 ≠ 2 := h7
    refine go_aload_n dX12_performs_10 rfl ?_
    refine go_callV (as := []) wX12_381 dX12_performs_11 rfl rfl rfl rfl (Nat.le_of_ble_eq_true rfl) (ct_X12_remember hR hK0 hC (fun ρ fc ef hC1 => ?_))
    refine go_aload_n dX12_performs_14 rfl ?_
    refine go_aload_n dX12_performs_15 rfl ?_
    refine go_getR fX12_61 dX12_performs_16 rfl (fc.RO hR _ _ _ rfl) ?_
    refine go_iload_n dX12_performs_19 rfl ?_
    refine go_callV (as := [_, _]) wX12_417 dX12_performs_20 rfl rfl rfl rfl (Nat.le_of_ble_eq_true rfl) (ct_stepsH (x := x) (fc.RO hR) hK0.s rfl (WM_R.mpr hC1.2.2.1.1) hK0.w (by omega) hxk ((hC1.2.2.2.2.2.2.2.2.2.1.2 n L hL).1 i x hx) hcan h2 (fun r hr1 hr2 => ?_))
    refine go_vret rfl dX12_performs_23 ?_
    obtain ⟨k1, k2⟩ := MI_set (w := tkW (xw X) x) hC1 hr1 tkW_dy hr2
    rw [acS_h h2] at hK
    exact hK _ (fc.tr k2) k1

theorem mp24 {l : Launch} {D : va_G} {cA ad : Nat → Nat} {d : Nat} {σ : AS} {K : Option Value → AS → Prop} {n N : Nat} {X1 : XS} {L : List ST} (hR : RO σ) (hn4 : n < 4) (hLk : LOK L) (hK : ∀ τ, FD σ τ → MI τ X1 → K (some (.int (iI N))) τ) : ∀ (R : List ST) (i : Nat) (Y : XS) (τ : AS), L.drop i = R → FD σ τ → MI τ Y → XK Y → (xp Y)[n]? = some L → i ≤ L.length → i + (perF R Y).1 = N → (perF R Y).2 = X1 → Go l D cA ad (d + 37) mX12_perform 24 [.ref 111, .int (iI n), .int (iI i)] [] τ K := by
  have hl16 := hLk.1
  intro R
  induction R with
  | nil =>
    intro i Y τ hR2 hf hCY hKY hLY hi hres hres2
    have hPL := (hCY.2.2.2.2.2.2.2.2.2.1.2 n L hLY)
    have hil := drop_nil hR2 hi
    refine go_iload_n dX12_perform_24 rfl ?_
    refine go_aload_n dX12_perform_25 rfl ?_
    refine go_getR fX12_58 dX12_perform_26 rfl (hf.RO hR _ _ _ rfl) ?_
    refine go_iload_n dX12_perform_29 rfl ?_
    refine go_iald dX12_perform_30 rfl (vp_iI (by omega)) ?_
    rw [cl_n _ (by omega), hPL.2]
    refine go_icmp_ge (tgt := 71) dX12_perform_31 (by decide) (fun h31 => ?_) (fun h31 => ?_)
    · refine go_iload_n dX12_perform_71 rfl ?_
      refine go_iret rfl rfl dX12_perform_72 ?_
      have e1 : Y = X1 := hres2
      have e2 : i = N := hres
      subst e1; subst e2
      exact hK τ hf hCY
    · exfalso
      rw [iI_le (by omega)] at h31
      omega
  | cons x R ih =>
    intro i Y τ hR2 hf hCY hKY hLY hi hres hres2
    have hPL := (hCY.2.2.2.2.2.2.2.2.2.1.2 n L hLY)
    have hx := drop_cons hR2
    have hil := hx.2.2
    have hxx := hPL.1 i x hx.1
    have hxk := hLk.2 x (List.mem_of_getElem? hx.1)
    refine go_iload_n dX12_perform_24 rfl ?_
    refine go_aload_n dX12_perform_25 rfl ?_
    refine go_getR fX12_58 dX12_perform_26 rfl (hf.RO hR _ _ _ rfl) ?_
    refine go_iload_n dX12_perform_29 rfl ?_
    refine go_iald dX12_perform_30 rfl (vp_iI (by omega)) ?_
    rw [cl_n _ (by omega), hPL.2]
    refine go_icmp_ge (tgt := 71) dX12_perform_31 (by decide) (fun h31 => ?_) (fun h31 => ?_)
    · exfalso
      rw [iI_le (by omega)] at h31
      omega
    · refine go_aload_n dX12_perform_34 rfl ?_
      refine go_aload_n dX12_perform_35 rfl ?_
      refine go_getR fX12_61 dX12_perform_36 rfl (hf.RO hR _ _ _ rfl) ?_
      refine go_iconst (v := iI 3) dX12_perform_39 (by decide) ?_
      refine go_bipush (v := iI 16) dX12_perform_40 (by decide) ?_
      refine go_iload_n dX12_perform_42 rfl ?_
      refine go_imul dX12_perform_43 ?_
      refine go_iload_n dX12_perform_44 rfl ?_
      refine go_iadd dX12_perform_45 ?_
      refine go_imul dX12_perform_46 ?_
      rw [iI_mul, iI_add, iI_mul, show 3 * (16 * (n : Int) + (i : Int)) = ((3 * (16 * n + i) : Nat) : Int) by omega]
      refine go_callV (as := [_, _]) wX12_413 dX12_perform_47 rfl rfl rfl rfl (Nat.le_of_ble_eq_true rfl) (ct_canStepS (hf.RO hR) hCY.2.1 hKY.s rfl (WM_R.mpr hCY.2.2.1.1) hKY.w (by omega) hxk hxx (fun hc => ?_) (fun hc => ?_))
      · refine go_if_eq (tgt := 71) dX12_perform_50 (by decide) (fun h50 => ?_) (fun h50 => ?_)
        · exact absurd h50 (by decide)
        · refine go_aload_n dX12_perform_53 rfl ?_
          refine go_iconst (v := iI 3) dX12_perform_54 (by decide) ?_
          refine go_bipush (v := iI 16) dX12_perform_55 (by decide) ?_
          refine go_iload_n dX12_perform_57 rfl ?_
          refine go_imul dX12_perform_58 ?_
          refine go_iload_n dX12_perform_59 rfl ?_
          refine go_iadd dX12_perform_60 ?_
          refine go_imul dX12_perform_61 ?_
          rw [iI_mul, iI_add, iI_mul, show 3 * (16 * (n : Int) + (i : Int)) = ((3 * (16 * n + i) : Nat) : Int) by omega]
          refine go_callV (as := [_]) wX12_420 dX12_perform_62 rfl rfl rfl rfl (Nat.le_of_ble_eq_true rfl) (ct_X12_performs (hf.RO hR) hKY hCY hn4 (by omega) hLY hx.1 hxk hc (fun ρ fc hC1 => ?_))
          refine go_iincI dX12_perform_65 rfl (Nat.le_of_ble_eq_true rfl) rfl ?_
          refine go_goto (tgt := 24) dX12_perform_68 (by decide) ?_
          rw [perF_y hc] at hres hres2
          simp only [List.set, iI_add]
          exact ih (i + 1) _ ρ hx.2.1 (hf.tr fc) hC1 (acS_ok hKY hc) (by rw [acS_fx.1]; exact hLY) (by omega) (by rw [← hres]; omega) hres2
      · refine go_if_eq (tgt := 71) dX12_perform_50 (by decide) (fun h50 => ?_) (fun h50 => ?_)
        · refine go_iload_n dX12_perform_71 rfl ?_
          refine go_iret rfl rfl dX12_perform_72 ?_
          rw [perF_n hc] at hres hres2
          have e1 : Y = X1 := hres2
          have e2 : i = N := hres
          subst e1; subst e2
          exact hK τ hf hCY
        · exact absurd h50 (by decide)
theorem ct_X12_perform {l : Launch} {D : va_G} {cA ad : Nat → Nat} {d : Nat} {σ : AS} {K : Option Value → AS → Prop} {X : XS} {a : Int} (hR : RO σ) (hK0 : XK X) (hC : MI σ X) (ha32 : -2147483648 ≤ a ∧ a < 2147483648) (hK : ∀ τ, FD σ τ → MI τ (perX X a) → K (some (.int (iI (perA X a)))) τ) : Call l D cA ad (d + 37) mX12_perform [.ref 111, .int (iI a)] σ K := by
  have hP7 := hK0.s.1
  have hQ9 := hK0.s.2.1
  refine call_go (by decide) (Nat.le_of_ble_eq_true rfl) (show Go l D cA ad (d + 37) mX12_perform 0 [.ref 111, .int (iI a), .null] [] σ K from ?_)
  refine go_aload_n dX12_perform_0 rfl ?_
  refine go_iconst (v := iI 0) dX12_perform_1 (by decide) ?_
  refine go_putI fX12_96 rfl dX12_perform_2 rfl rfl rfl ?_
  have hq : DF (xL X) σ (sI σ 111 (upd (σ.1 111) 0 (iI 0))) := DF_f0 DF.rf
  have hR0 := hq.RO hR
  have hC0 := hC.q hK0 hq
  generalize sI σ 111 (upd (σ.1 111) 0 (iI 0)) = τ at hq hR0 hC0 ⊢
  refine go_aload_n dX12_perform_5 rfl ?_
  refine go_iload_n dX12_perform_6 rfl ?_
  refine go_callV (as := [_]) wX12_405 dX12_perform_7 rfl rfl rfl rfl (Nat.le_of_ble_eq_true rfl) (ct_X12_isPlan hR0 hK0 hC0 ha32 (fun n L hn hL => ?_) (fun hx => ?_))
  · refine go_if_eq (tgt := 20) dX12_perform_10 (by decide) (fun h10 => ?_) (fun h10 => ?_)
    · exact absurd h10 (by decide)
    · subst hn
      have hnl := (List.getElem?_eq_some_iff.mp hL).1
      have hp4 := hK0.p.1
      have hPL := hC0.2.2.2.2.2.2.2.2.2.1.2 n L hL
      have hLk := hK0.p.2 L (List.mem_of_getElem? hL)
      have hl16 := hLk.1
      refine go_aload_n dX12_perform_13 rfl ?_
      refine go_getI fX12_294 dX12_perform_14 rfl ?_
      refine go_if_ne (tgt := 22) dX12_perform_17 (by decide) (fun h17 => ?_) (fun h17 => ?_)
      · rw [hC0.2.1.1, iI_eq0 (by omega)] at h17
        refine go_iconst (v := iI 0) dX12_perform_22 (by decide) ?_
        refine go_istore_n dX12_perform_23 (Nat.le_of_ble_eq_true rfl) rfl ?_
        rw [(per_y hL (by omega)).1, (per_y hL (by omega)).2] at hK
        simp only [List.set]
        exact mp24 (N := (perF L X).1) (X1 := (perF L X).2) hR0 (by omega) hLk (fun ρ f h => hK ρ (hq.1.tr f) h) L 0 X τ rfl FD.rf hC0 hK0 hL (Nat.zero_le _) (Nat.zero_add _) rfl
      · rw [hC0.2.1.1, iI_eq0 (by omega)] at h17
        refine go_iconst (v := iI (-1)) dX12_perform_20 (by decide) ?_
        refine go_iret rfl rfl dX12_perform_21 ?_
        rw [(per_m hL (by omega)).1, (per_m hL (by omega)).2] at hK
        exact hK τ hq.1 hC0
  · refine go_if_eq (tgt := 20) dX12_perform_10 (by decide) (fun h10 => ?_) (fun h10 => ?_)
    · refine go_iconst (v := iI (-1)) dX12_perform_20 (by decide) ?_
      refine go_iret rfl rfl dX12_perform_21 ?_
      rw [(per_n hx).1, (per_n hx).2] at hK
      exact hK τ hq.1 hC0
    · exact absurd h10 (by decide)

