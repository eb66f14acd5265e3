def csS (t : List Nat) (e : Nat) (a : Nat) : RS := match smE t e a with
  | (q, none) => (q, none)
  | (q, some x) => cpS t e q x
theorem csS_sk {t : List Nat} {e a : Nat} : csS t e (sk t a) = csS t e a := by unfold csS; rw [smE_sk]
theorem csS_0 {t : List Nat} {e a q : Nat} (h : smE t e a = (q, none)) : csS t e a = (q, none) := by unfold csS; rw [h]
theorem csS_1 {t : List Nat} {e a q : Nat} {x : CV} (h : smE t e a = (q, some x)) : csS t e a = cpS t e q x := by unfold csS; rw [h]
theorem csS_ex {t : List Nat} {e a q : Nat} {c : CV} (h : csS t e a = (q, some c)) : Ex true (2 * e + 4) c := by
  unfold csS at h
  cases e1 : smE t e a with
  | mk p oc =>
    rw [e1] at h
    cases oc with
    | none => cases h
    | some x => exact cpS_ex (smE_ex e _ _ _ e1) (by omega) (by omega) h
theorem nbB {v : Int32} (h : B01 v) : narrow .boolean (.int v) = .int v := by rcases h with rfl | rfl <;> rfl
theorem nb1 {z : Int} (h : bdK true z) : narrow .boolean (.int (iI z)) = .int (iI z) := by rcases h with rfl | rfl <;> rfl
theorem B0 : B01 (iI 0) := Or.inl rfl
theorem B1 : B01 (iI 1) := Or.inr rfl
theorem c13_M {l : Launch} {D : va_G} {cA ad : Nat → Nat} {d e tx b : Nat} {τ : AS} {ev : Nat → Int} {t : List Nat} {K : Option Value → AS → Prop} {a : Nat} {x : CV} {v1 v2 v4 v5 : Value} (ht : TOK t) (hR : RO τ) (hX : TX τ tx b t) (hE : EV τ ev) (hsum : PrsM l D cA ad t τ ev e (d + 2) mX12_sum [] BAn (smE t e)) (ha : a ≤ t.length) (hx : bd6 (x.2 ev)) (hK1 : ∀ q v w, cpS t e a x = (q, none) → q ≤ t.length → B01 v → K (some (.int v)) (msa (md τ w) q q)) (hK2 : ∀ q c, cpS t e a x = (q, some c) → q ≤ t.length → K (some (.int (iI (c.2 ev)))) (msa (md τ (dw e)) q (-1))) : Go l D cA ad (d + 3) mX12_compares 13 [.ref 111, v1, v2, .int (iI (x.2 ev)), v4, v5] [] (msa (md τ (dw e)) a (-1)) K := by
  have ht1 := ht.1
  have hXm : ∀ w, TX (md τ w) tx b t := fun w => TX_md hX
  have hX8 : ∀ w, (md τ w).1 111 8 = iI b := fun w => by rw [md_fd (by decide)]; exact hX.2.2.1
  have hxb2 := hx
  unfold bd6 at hxb2
  have hch := ch_lt ht (sk t a)
  have hsk := sk_le ha
  refine go_aload_n dX12_compares_13 rfl ?_
  refine go_getI fX12_128 dX12_compares_14 rfl ?_
  refine go_iconst (v := iI (-1)) dX12_compares_17 (by decide) ?_
  refine go_icmp_eq (tgt := 23) dX12_compares_18 (by decide) (fun h18 => ?_) (fun h18 => ?_)
  · refine go_aload_n dX12_compares_23 rfl ?_
    refine go_callV (as := []) wX12_138 dX12_compares_24 rfl rfl rfl rfl (Nat.le_of_ble_eq_true rfl) (ct_X12_look ht (hXm _) ha ?_)
    refine go_istore dX12_compares_27 (Nat.le_of_ble_eq_true rfl) rfl ?_
    refine go_iload dX12_compares_29 rfl ?_
    refine go_callS (as := [_]) wX12_181 dX12_compares_31 rfl rfl (Nat.le_of_ble_eq_true rfl) (ct_X12_isSign hch (fun hk => ?_) (fun hk => ?_))
    · refine go_if_ne (tgt := 42) dX12_compares_34 (by decide) (fun h34 => ?_) (fun h34 => ?_)
      · exact absurd h34 (by decide)
      · refine go_aload_n dX12_compares_37 rfl ?_
        refine go_callV (as := []) wX12_134 dX12_compares_38 rfl rfl rfl rfl (Nat.le_of_ble_eq_true rfl) (ct_X12_fails ?_)
        refine go_iret rfl rfl dX12_compares_41 ?_
        exact hK1 _ _ _ (cpS_0 hk) hsk B0
    · have hp1 := sk_lt_of (t := t) (a := a) (c := ch t (sk t a)) rfl (by have := cmp_gt hk; omega)
      have hcg := cmp_gt hk
      refine go_if_ne (tgt := 42) dX12_compares_34 (by decide) (fun h34 => ?_) (fun h34 => ?_)
      · refine go_aload_n dX12_compares_42 rfl ?_
        refine go_dup dX12_compares_43 rfl ?_
        refine go_getI fX12_119 dX12_compares_44 rfl ?_
        refine go_iconst (v := iI 1) dX12_compares_47 (by decide) ?_
        refine go_iadd dX12_compares_48 ?_
        refine go_putI fX12_119 rfl dX12_compares_49 rfl rfl rfl ?_
        rw [msa_inc]
        refine go_aload_n dX12_compares_52 rfl ?_
        refine go_callV (as := []) wX12_161 dX12_compares_53 rfl rfl rfl rfl (Nat.le_of_ble_eq_true rfl) (hsum _ (sk t a + 1) hp1 (fun q v w hq2 hle hB => ?_) (fun q y hq2 hle => ?_))
        · refine go_istore dX12_compares_56 (Nat.le_of_ble_eq_true rfl) rfl ?_
          refine go_iload dX12_compares_58 rfl ?_
          refine go_bipush (v := iI 61) dX12_compares_60 (by decide) ?_
          refine go_icmp_ne (tgt := 79) dX12_compares_62 (by decide) (fun h62 => ?_) (fun h62 => ?_)
          · rw [iI_eq (by omega)] at h62
            refine go_iload dX12_compares_79 rfl ?_
            refine go_bipush (v := iI 60) dX12_compares_81 (by decide) ?_
            refine go_icmp_ne (tgt := 100) dX12_compares_83 (by decide) (fun h83 => ?_) (fun h83 => ?_)
            · rw [iI_eq (by omega)] at h83
              refine go_iload_n dX12_compares_100 rfl ?_
              refine go_iload dX12_compares_101 rfl ?_
              refine go_icmp_le (tgt := 110) dX12_compares_103 (by decide) (fun h103 => ?_) (fun h103 => ?_)
              · refine go_iconst (v := iI 0) dX12_compares_110 (by decide) ?_
                refine go_iret rfl rfl dX12_compares_111 ?_
                exact hK1 _ _ _ (cpS_1 hk hq2) hle B0
              · refine go_iconst (v := iI 1) dX12_compares_106 (by decide) ?_
                refine go_goto (tgt := 111) dX12_compares_107 (by decide) ?_
                refine go_iret rfl rfl dX12_compares_111 ?_
                exact hK1 _ _ _ (cpS_1 hk hq2) hle B1
            · rw [iI_eq (by omega)] at h83
              refine go_iload_n dX12_compares_86 rfl ?_
              refine go_iload dX12_compares_87 rfl ?_
              refine go_icmp_ge (tgt := 96) dX12_compares_89 (by decide) (fun h89 => ?_) (fun h89 => ?_)
              · refine go_iconst (v := iI 0) dX12_compares_96 (by decide) ?_
                refine go_goto (tgt := 111) dX12_compares_97 (by decide) ?_
                refine go_iret rfl rfl dX12_compares_111 ?_
                exact hK1 _ _ _ (cpS_1 hk hq2) hle B0
              · refine go_iconst (v := iI 1) dX12_compares_92 (by decide) ?_
                refine go_goto (tgt := 111) dX12_compares_93 (by decide) ?_
                refine go_iret rfl rfl dX12_compares_111 ?_
                exact hK1 _ _ _ (cpS_1 hk hq2) hle B1
          · rw [iI_eq (by omega)] at h62
            refine go_iload_n dX12_compares_65 rfl ?_
            refine go_iload dX12_compares_66 rfl ?_
            refine go_icmp_ne (tgt := 75) dX12_compares_68 (by decide) (fun h68 => ?_) (fun h68 => ?_)
            · refine go_iconst (v := iI 0) dX12_compares_75 (by decide) ?_
              refine go_goto (tgt := 111) dX12_compares_76 (by decide) ?_
              refine go_iret rfl rfl dX12_compares_111 ?_
              exact hK1 _ _ _ (cpS_1 hk hq2) hle B0
            · refine go_iconst (v := iI 1) dX12_compares_71 (by decide) ?_
              refine go_goto (tgt := 111) dX12_compares_72 (by decide) ?_
              refine go_iret rfl rfl dX12_compares_111 ?_
              exact hK1 _ _ _ (cpS_1 hk hq2) hle B1
        · have hyb : bd6 (y.2 ev) := (smE_ex e _ _ _ hq2).bd (fun j hj => (hE j hj).2)
          have hyb2 := hyb
          unfold bd6 at hyb2
          refine go_istore dX12_compares_56 (Nat.le_of_ble_eq_true rfl) rfl ?_
          refine go_iload dX12_compares_58 rfl ?_
          refine go_bipush (v := iI 61) dX12_compares_60 (by decide) ?_
          refine go_icmp_ne (tgt := 79) dX12_compares_62 (by decide) (fun h62 => ?_) (fun h62 => ?_)
          · rw [iI_eq (by omega)] at h62
            refine go_iload dX12_compares_79 rfl ?_
            refine go_bipush (v := iI 60) dX12_compares_81 (by decide) ?_
            refine go_icmp_ne (tgt := 100) dX12_compares_83 (by decide) (fun h83 => ?_) (fun h83 => ?_)
            · rw [iI_eq (by omega)] at h83
              refine go_iload_n dX12_compares_100 rfl ?_
              refine go_iload dX12_compares_101 rfl ?_
              refine go_icmp_le (tgt := 110) dX12_compares_103 (by decide) (fun h103 => ?_) (fun h103 => ?_)
              · refine go_iconst (v := iI 0) dX12_compares_110 (by decide) ?_
                refine go_iret rfl rfl dX12_compares_111 ?_
                rw [iI_le (by omega)] at h103
                have hcm : cmpO (ch t (sk t a)) = -17 := by rw [show ch t (sk t a) = 62 by omega]; rfl
                have e9 : (cvB (cmpO (ch t (sk t a))) x y).2 ev = 0 := by
                  show opV (cmpO (ch t (sk t a))) (x.2 ev) (y.2 ev) = 0
                  rw [hcm, op_17, if_neg (by omega)]
                have h9 := hK2 _ _ (cpS_2 hk hq2) hle
                rw [e9] at h9
                exact h9
              · refine go_iconst (v := iI 1) dX12_compares_106 (by decide) ?_
                refine go_goto (tgt := 111) dX12_compares_107 (by decide) ?_
                refine go_iret rfl rfl dX12_compares_111 ?_
                rw [iI_le (by omega)] at h103
                have hcm : cmpO (ch t (sk t a)) = -17 := by rw [show ch t (sk t a) = 62 by omega]; rfl
                have e9 : (cvB (cmpO (ch t (sk t a))) x y).2 ev = 1 := by
                  show opV (cmpO (ch t (sk t a))) (x.2 ev) (y.2 ev) = 1
                  rw [hcm, op_17, if_pos (by omega)]
                have h9 := hK2 _ _ (cpS_2 hk hq2) hle
                rw [e9] at h9
                exact h9
            · rw [iI_eq (by omega)] at h83
              refine go_iload_n dX12_compares_86 rfl ?_
              refine go_iload dX12_compares_87 rfl ?_
              refine go_icmp_ge (tgt := 96) dX12_compares_89 (by decide) (fun h89 => ?_) (fun h89 => ?_)
              · refine go_iconst (v := iI 0) dX12_compares_96 (by decide) ?_
                refine go_goto (tgt := 111) dX12_compares_97 (by decide) ?_
                refine go_iret rfl rfl dX12_compares_111 ?_
                rw [iI_le (by omega)] at h89
                have hcm : cmpO (ch t (sk t a)) = -16 := by rw [show ch t (sk t a) = 60 by omega]; rfl
                have e9 : (cvB (cmpO (ch t (sk t a))) x y).2 ev = 0 := by
                  show opV (cmpO (ch t (sk t a))) (x.2 ev) (y.2 ev) = 0
                  rw [hcm, op_16, if_neg (by omega)]
                have h9 := hK2 _ _ (cpS_2 hk hq2) hle
                rw [e9] at h9
                exact h9
              · refine go_iconst (v := iI 1) dX12_compares_92 (by decide) ?_
                refine go_goto (tgt := 111) dX12_compares_93 (by decide) ?_
                refine go_iret rfl rfl dX12_compares_111 ?_
                rw [iI_le (by omega)] at h89
                have hcm : cmpO (ch t (sk t a)) = -16 := by rw [show ch t (sk t a) = 60 by omega]; rfl
                have e9 : (cvB (cmpO (ch t (sk t a))) x y).2 ev = 1 := by
                  show opV (cmpO (ch t (sk t a))) (x.2 ev) (y.2 ev) = 1
                  rw [hcm, op_16, if_pos (by omega)]
                have h9 := hK2 _ _ (cpS_2 hk hq2) hle
                rw [e9] at h9
                exact h9
          · rw [iI_eq (by omega)] at h62
            refine go_iload_n dX12_compares_65 rfl ?_
            refine go_iload dX12_compares_66 rfl ?_
            refine go_icmp_ne (tgt := 75) dX12_compares_68 (by decide) (fun h68 => ?_) (fun h68 => ?_)
            · refine go_iconst (v := iI 0) dX12_compares_75 (by decide) ?_
              refine go_goto (tgt := 111) dX12_compares_76 (by decide) ?_
              refine go_iret rfl rfl dX12_compares_111 ?_
              rw [iI_eq (by omega)] at h68
              have hcm : cmpO (ch t (sk t a)) = -15 := by rw [show ch t (sk t a) = 61 by omega]; rfl
              have e9 : (cvB (cmpO (ch t (sk t a))) x y).2 ev = 0 := by
                show opV (cmpO (ch t (sk t a))) (x.2 ev) (y.2 ev) = 0
                rw [hcm, op_15, if_neg (by omega)]
              have h9 := hK2 _ _ (cpS_2 hk hq2) hle
              rw [e9] at h9
              exact h9
            · refine go_iconst (v := iI 1) dX12_compares_71 (by decide) ?_
              refine go_goto (tgt := 111) dX12_compares_72 (by decide) ?_
              refine go_iret rfl rfl dX12_compares_111 ?_
              rw [iI_eq (by omega)] at h68
              have hcm : cmpO (ch t (sk t a)) = -15 := by rw [show ch t (sk t a) = 61 by omega]; rfl
              have e9 : (cvB (cmpO (ch t (sk t a))) x y).2 ev = 1 := by
                show opV (cmpO (ch t (sk t a))) (x.2 ev) (y.2 ev) = 1
                rw [hcm, op_15, if_pos (by omega)]
              have h9 := hK2 _ _ (cpS_2 hk hq2) hle
              rw [e9] at h9
              exact h9
      · exact absurd h34 (by decide)
  · rw [msa_ft] at h18
    exact absurd rfl h18
theorem cmT_M {l : Launch} {D : va_G} {cA ad : Nat → Nat} {d e tx b : Nat} {τ : AS} {ev : Nat → Int} {t : List Nat} {x : CV} (ht : TOK t) (hR : RO τ) (hX : TX τ tx b t) (hE : EV τ ev) (hsum : PrsM l D cA ad t τ ev e (d + 2) mX12_sum [] BAn (smE t e)) (hx : bd6 (x.2 ev)) : PrsM l D cA ad t τ ev e (d + 3) mX12_compares [.int (iI 1), .int (iI (x.2 ev))] B01 (fun a => cpS t e a x) := by
  intro K a ha hK1 hK2
  have ht1 := ht.1
  refine call_go (by decide) (Nat.le_of_ble_eq_true rfl) (show Go l D cA ad (d + 3) mX12_compares 0 [.ref 111, .int (iI 1), .int (iI (x.2 ev)), .null, .null, .null] [] (msa (md τ (dw e)) a (-1)) K from ?_)
  refine go_iload_n dX12_compares_0 rfl ?_
  refine go_if_eq (tgt := 8) dX12_compares_1 (by decide) (fun h1 => ?_) (fun h1 => ?_)
  · exact absurd h1 (by decide)
  · refine go_iload_n dX12_compares_4 rfl ?_
    refine go_goto (tgt := 12) dX12_compares_5 (by decide) ?_
    refine go_istore_n dX12_compares_12 (Nat.le_of_ble_eq_true rfl) rfl ?_
    simp only [List.set]
    exact c13_M ht hR hX hE hsum ha hx hK1 hK2
theorem cmF_M {l : Launch} {D : va_G} {cA ad : Nat → Nat} {d e tx b : Nat} {τ : AS} {ev : Nat → Int} {t : List Nat} (ht : TOK t) (hR : RO τ) (hX : TX τ tx b t) (hE : EV τ ev) (hsum : PrsM l D cA ad t τ ev e (d + 2) mX12_sum [] BAn (smE t e)) : PrsM l D cA ad t τ ev e (d + 3) mX12_compares [.int (iI 0), .int (iI 0)] B01 (csS t e) := by
  intro K a ha hK1 hK2
  have ht1 := ht.1
  refine call_go (by decide) (Nat.le_of_ble_eq_true rfl) (show Go l D cA ad (d + 3) mX12_compares 0 [.ref 111, .int (iI 0), .int (iI 0), .null, .null, .null] [] (msa (md τ (dw e)) a (-1)) K from ?_)
  refine go_iload_n dX12_compares_0 rfl ?_
  refine go_if_eq (tgt := 8) dX12_compares_1 (by decide) (fun h1 => ?_) (fun h1 => ?_)
  · refine go_aload_n dX12_compares_8 rfl ?_
    refine go_callV (as := []) wX12_161 dX12_compares_9 rfl rfl rfl rfl (Nat.le_of_ble_eq_true rfl) (hsum _ a ha (fun q v w hq hle hB => ?_) (fun q x hq hle => ?_))
    · refine go_istore_n dX12_compares_12 (Nat.le_of_ble_eq_true rfl) rfl ?_
      simp only [List.set]
      refine go_aload_n dX12_compares_13 rfl ?_
      refine go_getI fX12_128 dX12_compares_14 rfl ?_
      refine go_iconst (v := iI (-1)) dX12_compares_17 (by decide) ?_
      refine go_icmp_eq (tgt := 23) dX12_compares_18 (by decide) (fun h18 => ?_) (fun h18 => ?_)
      · exfalso
        rw [msa_ft, iI_eq (by omega)] at h18
        omega
      · refine go_iconst (v := iI 0) dX12_compares_21 (by decide) ?_
        refine go_iret rfl rfl dX12_compares_22 ?_
        exact hK1 _ _ _ (csS_0 hq) hle B0
    · refine go_istore_n dX12_compares_12 (Nat.le_of_ble_eq_true rfl) rfl ?_
      simp only [List.set]
      have e9 := csS_1 hq
      exact c13_M ht hR hX hE hsum hle ((smE_ex e _ _ _ hq).bd (fun j hj => (hE j hj).2)) (fun q v w h => hK1 q v w (e9.trans h)) (fun q c h => hK2 q c (e9.trans h))
  · exact absurd h1 (by decide)
theorem un_M {l : Launch} {D : va_G} {cA ad : Nat → Nat} {d e tx b : Nat} {τ : AS} {ev : Nat → Int} {t : List Nat} (ht : TOK t) (hR : RO τ) (hX : TX τ tx b t) (hE : EV τ ev) (he : e ≤ 6) (hcm : PrsM l D cA ad t τ ev e (d + 2) mX12_compares [.int (iI 0), .int (iI 0)] B01 (csS t e)) (hu : ∀ e', e = e' + 1 → PrsM l D cA ad t τ ev e' (d + 2) mX12_unit [] B01 (unE t e')) (hc : ∀ e', e = e' + 1 → PrsM l D cA ad t τ ev e' (d + 2) mX12_condition [.int (iI 0), .int (iI 0)] B01 (cdS t (unE t e'))) : PrsM l D cA ad t τ ev e (d + 3) mX12_unit [] B01 (unE t e) := by
  intro K a ha hK1 hK2
  have ht1 := ht.1
  have hXm : ∀ w, TX (md τ w) tx b t := fun w => TX_md hX
  have hX8 : ∀ w, (md τ w).1 111 8 = iI b := fun w => by rw [md_fd (by decide)]; exact hX.2.2.1
  have hch := ch_lt ht (sk t a)
  have hsk := sk_le ha
  refine call_go (by decide) (Nat.le_of_ble_eq_true rfl) (show Go l D cA ad (d + 3) mX12_unit 0 [.ref 111, .null, .null] [] (msa (md τ (dw e)) a (-1)) K from ?_)
  refine go_aload_n dX12_unit_0 rfl ?_
  refine go_callV (as := []) wX12_138 dX12_unit_1 rfl rfl rfl rfl (Nat.le_of_ble_eq_true rfl) (ct_X12_look ht (hXm _) ha ?_)
  refine go_istore_n dX12_unit_4 (Nat.le_of_ble_eq_true rfl) rfl ?_
  refine go_iload_n dX12_unit_5 rfl ?_
  refine go_bipush (v := iI 33) dX12_unit_6 (by decide) ?_
  refine go_icmp_ne (tgt := 45) dX12_unit_8 (by decide) (fun h8 => ?_) (fun h8 => ?_)
  · rw [iI_eq (by omega)] at h8
    refine go_iload_n dX12_unit_45 rfl ?_
    refine go_bipush (v := iI 40) dX12_unit_46 (by decide) ?_
    refine go_icmp_ne (tgt := 90) dX12_unit_48 (by decide) (fun h48 => ?_) (fun h48 => ?_)
    · rw [iI_eq (by omega)] at h48
      refine go_aload_n dX12_unit_90 rfl ?_
      refine go_iconst (v := iI 0) dX12_unit_91 (by decide) ?_
      refine go_iconst (v := iI 0) dX12_unit_92 (by decide) ?_
      refine go_callV (as := [_, _]) wX12_191 dX12_unit_93 rfl rfl rfl rfl (Nat.le_of_ble_eq_true rfl) (hcm _ (sk t a) hsk (fun q v w hq hle hB => ?_) (fun q c hq hle => ?_))
      · rw [csS_sk] at hq
        have huq := (unS_n (rec := urE t e) h8 h48).trans hq
        refine go_iret rfl (by first | exact nbB hB | exact nb1 hcb) dX12_unit_96 ?_
        exact hK1 _ _ _ (by rw [unE_eq]; exact huq) hle hB
      · rw [csS_sk] at hq
        have huq := (unS_n (rec := urE t e) h8 h48).trans hq
        have hcb : bdK true (c.2 ev) := (csS_ex hq).bd (fun j hj => (hE j hj).2)
        refine go_iret rfl (by first | exact nbB hB | exact nb1 hcb) dX12_unit_96 ?_
        exact hK2 _ _ (by rw [unE_eq]; exact huq) hle
    · rw [iI_eq (by omega)] at h48
      have hp1 := sk_lt_of h48 (by decide)
      refine go_aload_n dX12_unit_51 rfl ?_
      refine go_callV (as := []) wX12_158 dX12_unit_52 rfl rfl rfl rfl (Nat.le_of_ble_eq_true rfl) (ct_X12_goesIn he (fun he0 => ?_) (fun e' he1 => ?_))
      · subst he0
        refine go_if_ne (tgt := 60) dX12_unit_55 (by decide) (fun h55 => ?_) (fun h55 => ?_)
        · exact absurd h55 (by decide)
        · refine go_iconst (v := iI 0) dX12_unit_58 (by decide) ?_
          refine go_iret rfl rfl dX12_unit_59 ?_
          exact hK1 _ _ _ (by rw [unE_eq]; exact unS_0 (Or.inr h48)) hsk B0
      · subst he1
        refine go_if_ne (tgt := 60) dX12_unit_55 (by decide) (fun h55 => ?_) (fun h55 => ?_)
        · refine go_aload_n dX12_unit_60 rfl ?_
          refine go_iconst (v := iI 0) dX12_unit_61 (by decide) ?_
          refine go_iconst (v := iI 0) dX12_unit_62 (by decide) ?_
          refine go_callV (as := [_, _]) wX12_187 dX12_unit_63 rfl rfl rfl rfl (Nat.le_of_ble_eq_true rfl) (hc e' rfl _ (sk t a + 1) hp1 (fun q v w hq hle hB => ?_) (fun q c hq hle => ?_))
          · refine go_istore_n dX12_unit_66 (Nat.le_of_ble_eq_true rfl) rfl ?_
            simp only [List.set]
            refine go_aload_n dX12_unit_67 rfl ?_
            refine go_bipush (v := iI 41) dX12_unit_68 (by decide) ?_
            refine go_callV (as := [_]) wX12_164 dX12_unit_70 rfl rfl rfl rfl (Nat.le_of_ble_eq_true rfl) (ct_X12_takes2 (t := t) (by omega) ?_)
            refine go_if_ne (tgt := 78) dX12_unit_73 (by decide) (fun h73 => ?_) (fun h73 => ?_)
            · exact absurd h73 (by decide)
            · refine go_iconst (v := iI 0) dX12_unit_76 (by decide) ?_
              refine go_iret rfl rfl dX12_unit_77 ?_
              exact hK1 _ _ _ (by rw [unE_eq]; refine (unS_x (Or.inr h48)).trans ?_; unfold nsS; rw [if_neg (by omega), hq]) hle B0
          · have hcb : bdK true (c.2 ev) := (cdS_ex (unE_ex e') _ _ _ hq).bd (fun j hj => (hE j hj).2)
            refine go_istore_n dX12_unit_66 (Nat.le_of_ble_eq_true rfl) rfl ?_
            simp only [List.set]
            refine go_aload_n dX12_unit_67 rfl ?_
            refine go_bipush (v := iI 41) dX12_unit_68 (by decide) ?_
            refine go_callV (as := [_]) wX12_164 dX12_unit_70 rfl rfl rfl rfl (Nat.le_of_ble_eq_true rfl) (ct_X12_takes (c := 41) ht (hXm _) hle (by decide) (fun hne => ?_) (fun heq => ?_))
            · refine go_if_ne (tgt := 78) dX12_unit_73 (by decide) (fun h73 => ?_) (fun h73 => ?_)
              · exact absurd h73 (by decide)
              · refine go_iconst (v := iI 0) dX12_unit_76 (by decide) ?_
                refine go_iret rfl rfl dX12_unit_77 ?_
                exact hK1 _ _ _ (by rw [unE_eq]; refine (unS_x (Or.inr h48)).trans ?_; unfold nsS; rw [if_neg (by omega), hq]; dsimp only; rw [if_neg hne]) (sk_le hle) B0
            · have hp2 := sk_lt_of heq (by decide)
              refine go_if_ne (tgt := 78) dX12_unit_73 (by decide) (fun h73 => ?_) (fun h73 => ?_)
              · refine go_aload_n dX12_unit_78 rfl ?_
                refine go_dup dX12_unit_79 rfl ?_
                refine go_getI fX12_131 dX12_unit_80 rfl ?_
                refine go_iconst (v := iI 1) dX12_unit_83 (by decide) ?_
                refine go_isub dX12_unit_84 ?_
                refine go_putI fX12_131 rfl dX12_unit_85 rfl rfl rfl ?_
                rw [msa_fd _ _ _ _ (by decide) (by decide), md_w, md_put]
                have hd6 : dw e' - iI 1 = dw (e' + 1) := by unfold dw; rw [iI_sub]; congr 1; omega
                rw [hd6]
                refine go_iload_n dX12_unit_88 rfl ?_
                refine go_iret rfl (nb1 hcb) dX12_unit_89 ?_
                exact hK2 _ _ (by rw [unE_eq]; refine (unS_x (Or.inr h48)).trans ?_; unfold nsS; rw [if_neg (by omega), hq]; dsimp only; rw [if_pos heq]) hp2
              · exact absurd h73 (by decide)
        · exact absurd h55 (by decide)
  · rw [iI_eq (by omega)] at h8
    have hp1 := sk_lt_of h8 (by decide)
    refine go_aload_n dX12_unit_11 rfl ?_
    refine go_callV (as := []) wX12_158 dX12_unit_12 rfl rfl rfl rfl (Nat.le_of_ble_eq_true rfl) (ct_X12_goesIn he (fun he0 => ?_) (fun e' he1 => ?_))
    · subst he0
      refine go_if_ne (tgt := 20) dX12_unit_15 (by decide) (fun h15 => ?_) (fun h15 => ?_)
      · exact absurd h15 (by decide)
      · refine go_iconst (v := iI 0) dX12_unit_18 (by decide) ?_
        refine go_iret rfl rfl dX12_unit_19 ?_
        exact hK1 _ _ _ (by rw [unE_eq]; exact unS_0 (Or.inl h8)) hsk B0
    · subst he1
      refine go_if_ne (tgt := 20) dX12_unit_15 (by decide) (fun h15 => ?_) (fun h15 => ?_)
      · refine go_aload_n dX12_unit_20 rfl ?_
        refine go_callV (as := []) wX12_184 dX12_unit_21 rfl rfl rfl rfl (Nat.le_of_ble_eq_true rfl) (hu e' rfl _ (sk t a + 1) hp1 (fun q v w hq hle hB => ?_) (fun q c hq hle => ?_))
        · refine go_istore_n dX12_unit_24 (Nat.le_of_ble_eq_true rfl) rfl ?_
          simp only [List.set]
          refine go_aload_n dX12_unit_25 rfl ?_
          refine go_dup dX12_unit_26 rfl ?_
          refine go_getI fX12_131 dX12_unit_27 rfl ?_
          refine go_iconst (v := iI 1) dX12_unit_30 (by decide) ?_
          refine go_isub dX12_unit_31 ?_
          refine go_putI fX12_131 rfl dX12_unit_32 rfl rfl rfl ?_
          rw [msa_fd _ _ _ _ (by decide) (by decide), md_w, md_put]
          refine go_iload_n dX12_unit_35 rfl ?_
          refine go_if_ne (tgt := 43) dX12_unit_36 (by decide) (fun h36 => ?_) (fun h36 => ?_)
          · refine go_iconst (v := iI 0) dX12_unit_43 (by decide) ?_
            refine go_iret rfl rfl dX12_unit_44 ?_
            exact hK1 _ _ _ (by rw [unE_eq]; refine (unS_x (Or.inl h8)).trans ?_; unfold nsS; rw [if_pos h8, hq]) hle B0
          · refine go_iconst (v := iI 1) dX12_unit_39 (by decide) ?_
            refine go_goto (tgt := 44) dX12_unit_40 (by decide) ?_
            refine go_iret rfl rfl dX12_unit_44 ?_
            exact hK1 _ _ _ (by rw [unE_eq]; refine (unS_x (Or.inl h8)).trans ?_; unfold nsS; rw [if_pos h8, hq]) hle B1
        · have hcb : bdK true (c.2 ev) := (unE_ex e' _ _ _ hq).bd (fun j hj => (hE j hj).2)
          refine go_istore_n dX12_unit_24 (Nat.le_of_ble_eq_true rfl) rfl ?_
          simp only [List.set]
          refine go_aload_n dX12_unit_25 rfl ?_
          refine go_dup dX12_unit_26 rfl ?_
          refine go_getI fX12_131 dX12_unit_27 rfl ?_
          refine go_iconst (v := iI 1) dX12_unit_30 (by decide) ?_
          refine go_isub dX12_unit_31 ?_
          refine go_putI fX12_131 rfl dX12_unit_32 rfl rfl rfl ?_
          rw [msa_fd _ _ _ _ (by decide) (by decide), md_w, md_put]
          have hd6 : dw e' - iI 1 = dw (e' + 1) := by unfold dw; rw [iI_sub]; congr 1; omega
          rw [hd6]
          refine go_iload_n dX12_unit_35 rfl ?_
          refine go_if_ne (tgt := 43) dX12_unit_36 (by decide) (fun h36 => ?_) (fun h36 => ?_)
          · refine go_iconst (v := iI 0) dX12_unit_43 (by decide) ?_
            refine go_iret rfl rfl dX12_unit_44 ?_
            have hcz : c.2 ev = 1 := by
              rcases hcb with q2 | q2
              · first | exact q2 | (rw [q2] at h36; exact absurd rfl h36)
              · first | exact q2 | (rw [q2] at h36; exact absurd h36 (by decide))
            have h9 := hK2 _ (notC c) (by rw [unE_eq]; refine (unS_x (Or.inl h8)).trans ?_; unfold nsS; rw [if_pos h8, hq]) hle
            rw [show (notC c).2 ev = 0 by show 1 - c.2 ev = 0; rw [hcz]; rfl] at h9
            exact h9
          · refine go_iconst (v := iI 1) dX12_unit_39 (by decide) ?_
            refine go_goto (tgt := 44) dX12_unit_40 (by decide) ?_
            refine go_iret rfl rfl dX12_unit_44 ?_
            have hcz : c.2 ev = 0 := by
              rcases hcb with q2 | q2
              · first | exact q2 | (rw [q2] at h36; exact absurd rfl h36)
              · first | exact q2 | (rw [q2] at h36; exact absurd h36 (by decide))
            have h9 := hK2 _ (notC c) (by rw [unE_eq]; refine (unS_x (Or.inl h8)).trans ?_; unfold nsS; rw [if_pos h8, hq]) hle
            rw [show (notC c).2 ev = 1 by show 1 - c.2 ev = 1; rw [hcz]; rfl] at h9
            exact h9
      · exact absurd h15 (by decide)
theorem lp_pa_M {l : Launch} {D : va_G} {cA ad : Nat → Nat} {d e tx b : Nat} {τ : AS} {ev : Nat → Int} {t : List Nat} {K : Option Value → AS → Prop} {S0 : RS} (ht : TOK t) (hR : RO τ) (hX : TX τ tx b t) (hE : EV τ ev) (hgd : GD t (unE t e)) (hit : PrsM l D cA ad t τ ev e (d + 2) mX12_unit [] B01 (unE t e)) (hK1 : ∀ q v w, S0 = (q, none) → q ≤ t.length → B01 v → K (some (.int v)) (msa (md τ w) q q)) (hK2 : ∀ q c, S0 = (q, some c) → q ≤ t.length → K (some (.int (iI (c.2 ev)))) (msa (md τ (dw e)) q (-1))) : ∀ (n a : Nat) (v1 v2 : Int32) (v4 : Value) (c : CV), t.length - a < n → a ≤ t.length → Ex true (2 * e + 5) c → S0 = lpS t (unE t e) 38 38 (-19) (-19) n a c → Go l D cA ad (d + 3) mX12_part 18 [.ref 111, .int v1, .int v2, .int (iI (c.2 ev)), v4] [] (msa (md τ (dw e)) a (-1)) K := by
  have ht1 := ht.1
  have hXm : ∀ w, TX (md τ w) tx b t := fun w => TX_md hX
  have hX8 : ∀ w, (md τ w).1 111 8 = iI b := fun w => by rw [md_fd (by decide)]; exact hX.2.2.1
  intro n
  induction n with
  | zero => intro a v1 v2 v4 c h; omega
  | succ n ih =>
  intro a v1 v2 v4 c hn ha hc hres
  have hcb : bdK true (c.2 ev) := hc.bd (fun j hj => (hE j hj).2)
  have hch := ch_lt ht (sk t a)
  have hsk := sk_le ha
  have hsg := sk_ge t a
  refine go_aload_n dX12_part_18 rfl ?_
  refine go_getI fX12_128 dX12_part_19 rfl ?_
  refine go_iconst (v := iI (-1)) dX12_part_22 (by decide) ?_
  refine go_icmp_ne (tgt := 69) dX12_part_23 (by decide) (fun h23 => ?_) (fun h23 => ?_)
  · rw [msa_ft] at h23
    exact absurd rfl h23
  · refine go_aload_n dX12_part_26 rfl ?_
    refine go_callV (as := []) wX12_138 dX12_part_27 rfl rfl rfl rfl (Nat.le_of_ble_eq_true rfl) (ct_X12_look ht (hXm _) ha ?_)
    refine go_bipush (v := iI 38) dX12_part_30 (by decide) ?_
    refine go_icmp_ne (tgt := 69) dX12_part_32 (by decide) (fun h32 => ?_) (fun h32 => ?_)
    · rw [iI_eq (by omega)] at h32
      refine go_iload_n dX12_part_69 rfl ?_
      refine go_iret rfl (nb1 hcb) dX12_part_70 ?_
      exact hK2 _ _ (hres.trans (lpS_5 h32 h32)) hsk
    · rw [iI_eq (by omega)] at h32
      refine go_aload_n dX12_part_35 rfl ?_
      refine go_dup dX12_part_36 rfl ?_
      refine go_getI fX12_119 dX12_part_37 rfl ?_
      refine go_iconst (v := iI 1) dX12_part_40 (by decide) ?_
      refine go_iadd dX12_part_41 ?_
      refine go_putI fX12_119 rfl dX12_part_42 rfl rfl rfl ?_
      rw [msa_inc]
      have hp1 := sk_lt_of h32 (by decide)
      refine go_aload_n dX12_part_45 rfl ?_
      refine go_callV (as := []) wX12_184 dX12_part_46 rfl rfl rfl rfl (Nat.le_of_ble_eq_true rfl) (hit _ (sk t a + 1) hp1 (fun q v w hq hle hB => ?_) (fun q x hq hle => ?_))
      · refine go_istore dX12_part_49 (Nat.le_of_ble_eq_true rfl) rfl ?_
        refine go_iload_n dX12_part_51 rfl ?_
        refine go_if_eq (tgt := 64) dX12_part_52 (by decide) (fun h52 => ?_) (fun h52 => ?_)
        · refine go_iconst (v := iI 0) dX12_part_64 (by decide) ?_
          refine go_istore_n dX12_part_65 (Nat.le_of_ble_eq_true rfl) rfl ?_
          refine go_goto (tgt := 18) dX12_part_66 (by decide) ?_
          simp only [List.set]
          refine go_aload_n dX12_part_18 rfl ?_
          refine go_getI fX12_128 dX12_part_19 rfl ?_
          refine go_iconst (v := iI (-1)) dX12_part_22 (by decide) ?_
          refine go_icmp_ne (tgt := 69) dX12_part_23 (by decide) (fun g23 => ?_) (fun g23 => ?_)
          · refine go_iload_n dX12_part_69 rfl ?_
            refine go_iret rfl rfl dX12_part_70 ?_
            exact hK1 _ _ _ (hres.trans (lpS_1 h32 hq)) hle B0
          · exfalso
            rw [msa_ft, iI_eq (by omega)] at g23
            omega
        · refine go_iload dX12_part_55 rfl ?_
          refine go_if_eq (tgt := 64) dX12_part_57 (by decide) (fun h57 => ?_) (fun h57 => ?_)
          · refine go_iconst (v := iI 0) dX12_part_64 (by decide) ?_
            refine go_istore_n dX12_part_65 (Nat.le_of_ble_eq_true rfl) rfl ?_
            refine go_goto (tgt := 18) dX12_part_66 (by decide) ?_
            simp only [List.set]
            refine go_aload_n dX12_part_18 rfl ?_
            refine go_getI fX12_128 dX12_part_19 rfl ?_
            refine go_iconst (v := iI (-1)) dX12_part_22 (by decide) ?_
            refine go_icmp_ne (tgt := 69) dX12_part_23 (by decide) (fun g23 => ?_) (fun g23 => ?_)
            · refine go_iload_n dX12_part_69 rfl ?_
              refine go_iret rfl rfl dX12_part_70 ?_
              exact hK1 _ _ _ (hres.trans (lpS_1 h32 hq)) hle B0
            · exfalso
              rw [msa_ft, iI_eq (by omega)] at g23
              omega
          · refine go_iconst (v := iI 1) dX12_part_60 (by decide) ?_
            refine go_goto (tgt := 65) dX12_part_61 (by decide) ?_
            refine go_istore_n dX12_part_65 (Nat.le_of_ble_eq_true rfl) rfl ?_
            refine go_goto (tgt := 18) dX12_part_66 (by decide) ?_
            simp only [List.set]
            refine go_aload_n dX12_part_18 rfl ?_
            refine go_getI fX12_128 dX12_part_19 rfl ?_
            refine go_iconst (v := iI (-1)) dX12_part_22 (by decide) ?_
            refine go_icmp_ne (tgt := 69) dX12_part_23 (by decide) (fun g23 => ?_) (fun g23 => ?_)
            · refine go_iload_n dX12_part_69 rfl ?_
              refine go_iret rfl rfl dX12_part_70 ?_
              exact hK1 _ _ _ (hres.trans (lpS_1 h32 hq)) hle B1
            · exfalso
              rw [msa_ft, iI_eq (by omega)] at g23
              omega
      · have hxb : bdK true (x.2 ev) := ((unE_ex e) _ _ _ hq).bd (fun j hj => (hE j hj).2)
        have hgi := hgd (sk t a + 1) hp1
        rw [hq] at hgi
        dsimp only at hgi
        refine go_istore dX12_part_49 (Nat.le_of_ble_eq_true rfl) rfl ?_
        refine go_iload_n dX12_part_51 rfl ?_
        refine go_if_eq (tgt := 64) dX12_part_52 (by decide) (fun h52 => ?_) (fun h52 => ?_)
        · refine go_iconst (v := iI 0) dX12_part_64 (by decide) ?_
          refine go_istore_n dX12_part_65 (Nat.le_of_ble_eq_true rfl) rfl ?_
          refine go_goto (tgt := 18) dX12_part_66 (by decide) ?_
          simp only [List.set]
          have h9 := ih q v1 v2 (.int (iI (x.2 ev))) (cvB (-19) c x) (by omega) hle (Ex.log hc ((unE_ex e) _ _ _ hq) (by omega) (by omega) (by omega)) (hres.trans (lpS_2 h32 hq))
          rw [show (cvB (-19) c x).2 ev = 0 by show opV (-19) (c.2 ev) (x.2 ev) = 0; rw [op_19, if_neg (fun q3 => q3.1 (by have := h52; rwa [iI_eq0 (by rcases hcb with q2 | q2 <;> omega)] at this))]] at h9
          exact h9
        · refine go_iload dX12_part_55 rfl ?_
          refine go_if_eq (tgt := 64) dX12_part_57 (by decide) (fun h57 => ?_) (fun h57 => ?_)
          · refine go_iconst (v := iI 0) dX12_part_64 (by decide) ?_
            refine go_istore_n dX12_part_65 (Nat.le_of_ble_eq_true rfl) rfl ?_
            refine go_goto (tgt := 18) dX12_part_66 (by decide) ?_
            simp only [List.set]
            have h9 := ih q v1 v2 (.int (iI (x.2 ev))) (cvB (-19) c x) (by omega) hle (Ex.log hc ((unE_ex e) _ _ _ hq) (by omega) (by omega) (by omega)) (hres.trans (lpS_2 h32 hq))
            rw [show (cvB (-19) c x).2 ev = 0 by show opV (-19) (c.2 ev) (x.2 ev) = 0; rw [op_19, if_neg (fun q3 => q3.2 (by have := h57; rwa [iI_eq0 (by rcases hxb with q2 | q2 <;> omega)] at this))]] at h9
            exact h9
          · refine go_iconst (v := iI 1) dX12_part_60 (by decide) ?_
            refine go_goto (tgt := 65) dX12_part_61 (by decide) ?_
            refine go_istore_n dX12_part_65 (Nat.le_of_ble_eq_true rfl) rfl ?_
            refine go_goto (tgt := 18) dX12_part_66 (by decide) ?_
            simp only [List.set]
            have h9 := ih q v1 v2 (.int (iI (x.2 ev))) (cvB (-19) c x) (by omega) hle (Ex.log hc ((unE_ex e) _ _ _ hq) (by omega) (by omega) (by omega)) (hres.trans (lpS_2 h32 hq))
            rw [show (cvB (-19) c x).2 ev = 1 by show opV (-19) (c.2 ev) (x.2 ev) = 1; rw [op_19, if_pos ⟨by have := h52; rwa [iI_eq0 (by rcases hcb with q2 | q2 <;> omega)] at this, by have := h57; rwa [iI_eq0 (by rcases hxb with q2 | q2 <;> omega)] at this⟩]] at h9
            exact h9
theorem paF_M {l : Launch} {D : va_G} {cA ad : Nat → Nat} {d e tx b : Nat} {τ : AS} {ev : Nat → Int} {t : List Nat} (ht : TOK t) (hR : RO τ) (hX : TX τ tx b t) (hE : EV τ ev) (hit : PrsM l D cA ad t τ ev e (d + 2) mX12_unit [] B01 (unE t e)) : PrsM l D cA ad t τ ev e (d + 3) mX12_part [.int (iI 0), .int (iI 0)] B01 (paS t (unE t e)) := by
  intro K a ha hK1 hK2
  have ht1 := ht.1
  refine call_go (by decide) (Nat.le_of_ble_eq_true rfl) (show Go l D cA ad (d + 3) mX12_part 0 [.ref 111, .int (iI 0), .int (iI 0), .null, .null] [] (msa (md τ (dw e)) a (-1)) K from ?_)
  refine go_iload_n dX12_part_0 rfl ?_
  refine go_if_eq (tgt := 13) dX12_part_1 (by decide) (fun h1 => ?_) (fun h1 => ?_)
  · refine go_aload_n dX12_part_13 rfl ?_
    refine go_callV (as := []) wX12_184 dX12_part_14 rfl rfl rfl rfl (Nat.le_of_ble_eq_true rfl) (hit _ a ha (fun q v w hq hle hB => ?_) (fun q x hq hle => ?_))
    · refine go_istore_n dX12_part_17 (Nat.le_of_ble_eq_true rfl) rfl ?_
      simp only [List.set]
      refine go_aload_n dX12_part_18 rfl ?_
      refine go_getI fX12_128 dX12_part_19 rfl ?_
      refine go_iconst (v := iI (-1)) dX12_part_22 (by decide) ?_
      refine go_icmp_ne (tgt := 69) dX12_part_23 (by decide) (fun h23 => ?_) (fun h23 => ?_)
      · refine go_iload_n dX12_part_69 rfl ?_
        refine go_iret rfl (nbB hB) dX12_part_70 ?_
        exact hK1 _ _ _ (rnS_0 hq) hle hB
      · exfalso
        rw [msa_ft, iI_eq (by omega)] at h23
        omega
    · refine go_istore_n dX12_part_17 (Nat.le_of_ble_eq_true rfl) rfl ?_
      simp only [List.set]
      exact lp_pa_M ht hR hX hE (unE_gd e) hit hK1 hK2 242 q _ _ _ x (by omega) hle ((unE_ex e _ _ _ hq).mono (by omega)) (rnS_1 hq)
  · exact absurd h1 (by decide)
def ptS (t : List Nat) (e : Nat) (x : CV) (a : Nat) : RS := match cpS t e a x with
  | (q, none) => (q, none)
  | (q, some u) => muS t (unE t e) q u
theorem ptS_0 {t : List Nat} {e a q : Nat} {x : CV} (h : cpS t e a x = (q, none)) : ptS t e x a = (q, none) := by unfold ptS; rw [h]
theorem ptS_1 {t : List Nat} {e a q : Nat} {x u : CV} (h : cpS t e a x = (q, some u)) : ptS t e x a = muS t (unE t e) q u := by unfold ptS; rw [h]
theorem paT_M {l : Launch} {D : va_G} {cA ad : Nat → Nat} {d e tx b : Nat} {τ : AS} {ev : Nat → Int} {t : List Nat} {x : CV} (ht : TOK t) (hR : RO τ) (hX : TX τ tx b t) (hE : EV τ ev) (hx : Ex false (2 * e + 3) x) (hcm : PrsM l D cA ad t τ ev e (d + 2) mX12_compares [.int (iI 1), .int (iI (x.2 ev))] B01 (fun a => cpS t e a x)) (hit : PrsM l D cA ad t τ ev e (d + 2) mX12_unit [] B01 (unE t e)) : PrsM l D cA ad t τ ev e (d + 3) mX12_part [.int (iI 1), .int (iI (x.2 ev))] B01 (ptS t e x) := by
  intro K a ha hK1 hK2
  have ht1 := ht.1
  refine call_go (by decide) (Nat.le_of_ble_eq_true rfl) (show Go l D cA ad (d + 3) mX12_part 0 [.ref 111, .int (iI 1), .int (iI (x.2 ev)), .null, .null] [] (msa (md τ (dw e)) a (-1)) K from ?_)
  refine go_iload_n dX12_part_0 rfl ?_
  refine go_if_eq (tgt := 13) dX12_part_1 (by decide) (fun h1 => ?_) (fun h1 => ?_)
  · exact absurd h1 (by decide)
  · refine go_aload_n dX12_part_4 rfl ?_
    refine go_iconst (v := iI 1) dX12_part_5 (by decide) ?_
    refine go_iload_n dX12_part_6 rfl ?_
    refine go_callV (as := [_, _]) wX12_191 dX12_part_7 rfl rfl rfl rfl (Nat.le_of_ble_eq_true rfl) (hcm _ a ha (fun q v w hq hle hB => ?_) (fun q u hq hle => ?_))
    · refine go_goto (tgt := 17) dX12_part_10 (by decide) ?_
      refine go_istore_n dX12_part_17 (Nat.le_of_ble_eq_true rfl) rfl ?_
      simp only [List.set]
      refine go_aload_n dX12_part_18 rfl ?_
      refine go_getI fX12_128 dX12_part_19 rfl ?_
      refine go_iconst (v := iI (-1)) dX12_part_22 (by decide) ?_
      refine go_icmp_ne (tgt := 69) dX12_part_23 (by decide) (fun h23 => ?_) (fun h23 => ?_)
      · refine go_iload_n dX12_part_69 rfl ?_
        refine go_iret rfl (nbB hB) dX12_part_70 ?_
        exact hK1 _ _ _ (ptS_0 hq) hle hB
      · exfalso
        rw [msa_ft, iI_eq (by omega)] at h23
        omega
    · refine go_goto (tgt := 17) dX12_part_10 (by decide) ?_
      refine go_istore_n dX12_part_17 (Nat.le_of_ble_eq_true rfl) rfl ?_
      simp only [List.set]
      exact lp_pa_M ht hR hX hE (unE_gd e) hit (fun q v w h => hK1 q v w ((ptS_1 hq).trans h)) (fun q c h => hK2 q c ((ptS_1 hq).trans h)) 242 q _ _ _ u (by omega) hle (cpS_ex hx (by omega) (by omega) hq) rfl
theorem lp_cd_M {l : Launch} {D : va_G} {cA ad : Nat → Nat} {d e tx b : Nat} {τ : AS} {ev : Nat → Int} {t : List Nat} {K : Option Value → AS → Prop} {S0 : RS} (ht : TOK t) (hR : RO τ) (hX : TX τ tx b t) (hE : EV τ ev) (hgd : GD t (paS t (unE t e))) (hit : PrsM l D cA ad t τ ev e (d + 2) mX12_part [.int (iI 0), .int (iI 0)] B01 (paS t (unE t e))) (hK1 : ∀ q v w, S0 = (q, none) → q ≤ t.length → B01 v → K (some (.int v)) (msa (md τ w) q q)) (hK2 : ∀ q c, S0 = (q, some c) → q ≤ t.length → K (some (.int (iI (c.2 ev)))) (msa (md τ (dw e)) q (-1))) : ∀ (n a : Nat) (v1 v2 : Int32) (v4 : Value) (c : CV), t.length - a < n → a ≤ t.length → Ex true (2 * e + 6) c → S0 = lpS t (paS t (unE t e)) 124 124 (-20) (-20) n a c → Go l D cA ad (d + 3) mX12_condition 7 [.ref 111, .int v1, .int v2, .int (iI (c.2 ev)), v4] [] (msa (md τ (dw e)) a (-1)) K := by
  have ht1 := ht.1
  have hXm : ∀ w, TX (md τ w) tx b t := fun w => TX_md hX
  have hX8 : ∀ w, (md τ w).1 111 8 = iI b := fun w => by rw [md_fd (by decide)]; exact hX.2.2.1
  intro n
  induction n with
  | zero => intro a v1 v2 v4 c h; omega
  | succ n ih =>
  intro a v1 v2 v4 c hn ha hc hres
  have hcb : bdK true (c.2 ev) := hc.bd (fun j hj => (hE j hj).2)
  have hch := ch_lt ht (sk t a)
  have hsk := sk_le ha
  have hsg := sk_ge t a
  refine go_aload_n dX12_condition_7 rfl ?_
  refine go_getI fX12_128 dX12_condition_8 rfl ?_
  refine go_iconst (v := iI (-1)) dX12_condition_11 (by decide) ?_
  refine go_icmp_ne (tgt := 60) dX12_condition_12 (by decide) (fun h12 => ?_) (fun h12 => ?_)
  · rw [msa_ft] at h12
    exact absurd rfl h12
  · refine go_aload_n dX12_condition_15 rfl ?_
    refine go_callV (as := []) wX12_138 dX12_condition_16 rfl rfl rfl rfl (Nat.le_of_ble_eq_true rfl) (ct_X12_look ht (hXm _) ha ?_)
    refine go_bipush (v := iI 124) dX12_condition_19 (by decide) ?_
    refine go_icmp_ne (tgt := 60) dX12_condition_21 (by decide) (fun h21 => ?_) (fun h21 => ?_)
    · rw [iI_eq (by omega)] at h21
      refine go_iload_n dX12_condition_60 rfl ?_
      refine go_iret rfl (nb1 hcb) dX12_condition_61 ?_
      exact hK2 _ _ (hres.trans (lpS_5 h21 h21)) hsk
    · rw [iI_eq (by omega)] at h21
      refine go_aload_n dX12_condition_24 rfl ?_
      refine go_dup dX12_condition_25 rfl ?_
      refine go_getI fX12_119 dX12_condition_26 rfl ?_
      refine go_iconst (v := iI 1) dX12_condition_29 (by decide) ?_
      refine go_iadd dX12_condition_30 ?_
      refine go_putI fX12_119 rfl dX12_condition_31 rfl rfl rfl ?_
      rw [msa_inc]
      have hp1 := sk_lt_of h21 (by decide)
      refine go_aload_n dX12_condition_34 rfl ?_
      refine go_iconst (v := iI 0) dX12_condition_35 (by decide) ?_
      refine go_iconst (v := iI 0) dX12_condition_36 (by decide) ?_
      refine go_callV (as := [_, _]) wX12_194 dX12_condition_37 rfl rfl rfl rfl (Nat.le_of_ble_eq_true rfl) (hit _ (sk t a + 1) hp1 (fun q v w hq hle hB => ?_) (fun q x hq hle => ?_))
      · refine go_istore dX12_condition_40 (Nat.le_of_ble_eq_true rfl) rfl ?_
        refine go_iload_n dX12_condition_42 rfl ?_
        refine go_if_ne (tgt := 51) dX12_condition_43 (by decide) (fun h43 => ?_) (fun h43 => ?_)
        · refine go_iconst (v := iI 1) dX12_condition_51 (by decide) ?_
          refine go_goto (tgt := 56) dX12_condition_52 (by decide) ?_
          refine go_istore_n dX12_condition_56 (Nat.le_of_ble_eq_true rfl) rfl ?_
          refine go_goto (tgt := 7) dX12_condition_57 (by decide) ?_
          simp only [List.set]
          refine go_aload_n dX12_condition_7 rfl ?_
          refine go_getI fX12_128 dX12_condition_8 rfl ?_
          refine go_iconst (v := iI (-1)) dX12_condition_11 (by decide) ?_
          refine go_icmp_ne (tgt := 60) dX12_condition_12 (by decide) (fun g12 => ?_) (fun g12 => ?_)
          · refine go_iload_n dX12_condition_60 rfl ?_
            refine go_iret rfl rfl dX12_condition_61 ?_
            exact hK1 _ _ _ (hres.trans (lpS_1 h21 hq)) hle B1
          · exfalso
            rw [msa_ft, iI_eq (by omega)] at g12
            omega
        · refine go_iload dX12_condition_46 rfl ?_
          refine go_if_eq (tgt := 55) dX12_condition_48 (by decide) (fun h48 => ?_) (fun h48 => ?_)
          · refine go_iconst (v := iI 0) dX12_condition_55 (by decide) ?_
            refine go_istore_n dX12_condition_56 (Nat.le_of_ble_eq_true rfl) rfl ?_
            refine go_goto (tgt := 7) dX12_condition_57 (by decide) ?_
            simp only [List.set]
            refine go_aload_n dX12_condition_7 rfl ?_
            refine go_getI fX12_128 dX12_condition_8 rfl ?_
            refine go_iconst (v := iI (-1)) dX12_condition_11 (by decide) ?_
            refine go_icmp_ne (tgt := 60) dX12_condition_12 (by decide) (fun g12 => ?_) (fun g12 => ?_)
            · refine go_iload_n dX12_condition_60 rfl ?_
              refine go_iret rfl rfl dX12_condition_61 ?_
              exact hK1 _ _ _ (hres.trans (lpS_1 h21 hq)) hle B0
            · exfalso
              rw [msa_ft, iI_eq (by omega)] at g12
              omega
          · refine go_iconst (v := iI 1) dX12_condition_51 (by decide) ?_
            refine go_goto (tgt := 56) dX12_condition_52 (by decide) ?_
            refine go_istore_n dX12_condition_56 (Nat.le_of_ble_eq_true rfl) rfl ?_
            refine go_goto (tgt := 7) dX12_condition_57 (by decide) ?_
            simp only [List.set]
            refine go_aload_n dX12_condition_7 rfl ?_
            refine go_getI fX12_128 dX12_condition_8 rfl ?_
            refine go_iconst (v := iI (-1)) dX12_condition_11 (by decide) ?_
            refine go_icmp_ne (tgt := 60) dX12_condition_12 (by decide) (fun g12 => ?_) (fun g12 => ?_)
            · refine go_iload_n dX12_condition_60 rfl ?_
              refine go_iret rfl rfl dX12_condition_61 ?_
              exact hK1 _ _ _ (hres.trans (lpS_1 h21 hq)) hle B1
            · exfalso
              rw [msa_ft, iI_eq (by omega)] at g12
              omega
      · have hxb : bdK true (x.2 ev) := ((paS_ex (unE_ex e)) _ _ _ hq).bd (fun j hj => (hE j hj).2)
        have hgi := hgd (sk t a + 1) hp1
        rw [hq] at hgi
        dsimp only at hgi
        refine go_istore dX12_condition_40 (Nat.le_of_ble_eq_true rfl) rfl ?_
        refine go_iload_n dX12_condition_42 rfl ?_
        refine go_if_ne (tgt := 51) dX12_condition_43 (by decide) (fun h43 => ?_) (fun h43 => ?_)
        · refine go_iconst (v := iI 1) dX12_condition_51 (by decide) ?_
          refine go_goto (tgt := 56) dX12_condition_52 (by decide) ?_
          refine go_istore_n dX12_condition_56 (Nat.le_of_ble_eq_true rfl) rfl ?_
          refine go_goto (tgt := 7) dX12_condition_57 (by decide) ?_
          simp only [List.set]
          have h9 := ih q v1 v2 (.int (iI (x.2 ev))) (cvB (-20) c x) (by omega) hle (Ex.log hc ((paS_ex (unE_ex e)) _ _ _ hq) (by omega) (by omega) (by omega)) (hres.trans (lpS_2 h21 hq))
          rw [show (cvB (-20) c x).2 ev = 1 by show opV (-20) (c.2 ev) (x.2 ev) = 1; rw [op_20, if_pos (Or.inl (by have := h43; rwa [iI_eq0 (by rcases hcb with q2 | q2 <;> omega)] at this))]] at h9
          exact h9
        · refine go_iload dX12_condition_46 rfl ?_
          refine go_if_eq (tgt := 55) dX12_condition_48 (by decide) (fun h48 => ?_) (fun h48 => ?_)
          · refine go_iconst (v := iI 0) dX12_condition_55 (by decide) ?_
            refine go_istore_n dX12_condition_56 (Nat.le_of_ble_eq_true rfl) rfl ?_
            refine go_goto (tgt := 7) dX12_condition_57 (by decide) ?_
            simp only [List.set]
            have h9 := ih q v1 v2 (.int (iI (x.2 ev))) (cvB (-20) c x) (by omega) hle (Ex.log hc ((paS_ex (unE_ex e)) _ _ _ hq) (by omega) (by omega) (by omega)) (hres.trans (lpS_2 h21 hq))
            rw [show (cvB (-20) c x).2 ev = 0 by show opV (-20) (c.2 ev) (x.2 ev) = 0; rw [op_20, if_neg (fun q3 => by have h1 := h43; have h2 := h48; rw [iI_eq0 (by rcases hcb with q2 | q2 <;> omega)] at h1; rw [iI_eq0 (by rcases hxb with q2 | q2 <;> omega)] at h2; omega)]] at h9
            exact h9
          · refine go_iconst (v := iI 1) dX12_condition_51 (by decide) ?_
            refine go_goto (tgt := 56) dX12_condition_52 (by decide) ?_
            refine go_istore_n dX12_condition_56 (Nat.le_of_ble_eq_true rfl) rfl ?_
            refine go_goto (tgt := 7) dX12_condition_57 (by decide) ?_
            simp only [List.set]
            have h9 := ih q v1 v2 (.int (iI (x.2 ev))) (cvB (-20) c x) (by omega) hle (Ex.log hc ((paS_ex (unE_ex e)) _ _ _ hq) (by omega) (by omega) (by omega)) (hres.trans (lpS_2 h21 hq))
            rw [show (cvB (-20) c x).2 ev = 1 by show opV (-20) (c.2 ev) (x.2 ev) = 1; rw [op_20, if_pos (Or.inr (by have := h48; rwa [iI_eq0 (by rcases hxb with q2 | q2 <;> omega)] at this))]] at h9
            exact h9
def cnS (t : List Nat) (e : Nat) (S : Nat → RS) (a : Nat) : RS := match S a with
  | (q, none) => (q, none)
  | (q, some y) => lpS t (paS t (unE t e)) 124 124 (-20) (-20) 242 q y
theorem cnS_0 {t : List Nat} {e a q : Nat} {S : Nat → RS} (h : S a = (q, none)) : cnS t e S a = (q, none) := by unfold cnS; rw [h]
theorem cnS_1 {t : List Nat} {e a q : Nat} {S : Nat → RS} {u : CV} (h : S a = (q, some u)) : cnS t e S a = lpS t (paS t (unE t e)) 124 124 (-20) (-20) 242 q u := by unfold cnS; rw [h]
theorem cd_M {l : Launch} {D : va_G} {cA ad : Nat → Nat} {d e tx b : Nat} {τ : AS} {ev : Nat → Int} {t : List Nat} {S : Nat → RS} {v1 v2 : Int32} (ht : TOK t) (hR : RO τ) (hX : TX τ tx b t) (hE : EV τ ev) (hx : GW S true (2 * e + 5)) (hp : PrsM l D cA ad t τ ev e (d + 2) mX12_part [.int v1, .int v2] B01 S) (hit : PrsM l D cA ad t τ ev e (d + 2) mX12_part [.int (iI 0), .int (iI 0)] B01 (paS t (unE t e))) : PrsM l D cA ad t τ ev e (d + 3) mX12_condition [.int v1, .int v2] B01 (cnS t e S) := by
  intro K a ha hK1 hK2
  have ht1 := ht.1
  refine call_go (by decide) (Nat.le_of_ble_eq_true rfl) (show Go l D cA ad (d + 3) mX12_condition 0 [.ref 111, .int v1, .int v2, .null, .null] [] (msa (md τ (dw e)) a (-1)) K from ?_)
  refine go_aload_n dX12_condition_0 rfl ?_
  refine go_iload_n dX12_condition_1 rfl ?_
  refine go_iload_n dX12_condition_2 rfl ?_
  refine go_callV (as := [_, _]) wX12_194 dX12_condition_3 rfl rfl rfl rfl (Nat.le_of_ble_eq_true rfl) (hp _ a ha (fun q v w hq hle hB => ?_) (fun q y hq hle => ?_))
  · refine go_istore_n dX12_condition_6 (Nat.le_of_ble_eq_true rfl) rfl ?_
    simp only [List.set]
    refine go_aload_n dX12_condition_7 rfl ?_
    refine go_getI fX12_128 dX12_condition_8 rfl ?_
    refine go_iconst (v := iI (-1)) dX12_condition_11 (by decide) ?_
    refine go_icmp_ne (tgt := 60) dX12_condition_12 (by decide) (fun h12 => ?_) (fun h12 => ?_)
    · refine go_iload_n dX12_condition_60 rfl ?_
      refine go_iret rfl (nbB hB) dX12_condition_61 ?_
      exact hK1 _ _ _ (cnS_0 hq) hle hB
    · exfalso
      rw [msa_ft, iI_eq (by omega)] at h12
      omega
  · refine go_istore_n dX12_condition_6 (Nat.le_of_ble_eq_true rfl) rfl ?_
    simp only [List.set]
    exact lp_cd_M ht hR hX hE (rnS_gd (unE_gd e) (by decide) (by decide)) hit (fun q v w h => hK1 q v w ((cnS_1 hq).trans h)) (fun q c h => hK2 q c ((cnS_1 hq).trans h)) 242 q _ _ _ y (by omega) hle ((hx _ _ _ hq).mono (by omega)) rfl
theorem cnS_pa {t : List Nat} {e : Nat} : cnS t e (paS t (unE t e)) = cdS t (unE t e) := by
  funext a
  unfold cnS cdS
  cases h : paS t (unE t e) a with
  | mk q oc =>
    cases oc with
    | none => exact (rnS_0 h).symm
    | some y => exact (rnS_1 h).symm
theorem cnS_pt {t : List Nat} {e a : Nat} {x : CV} : cnS t e (ptS t e x) a = match cpS t e a x with | (q, none) => (q, none) | (q, some u) => mtS t (unE t e) q u := by
  unfold cnS ptS mtS
  cases h : cpS t e a x with
  | mk q oc =>
    cases oc with
    | none => rfl
    | some u => rfl
theorem unitM {l : Launch} {D : va_G} {cA ad : Nat → Nat} {tx b : Nat} {τ : AS} {ev : Nat → Int} {t : List Nat} (ht : TOK t) (hR : RO τ) (hX : TX τ tx b t) (hE : EV τ ev) : ∀ (e d : Nat), e ≤ 6 → PrsM l D cA ad t τ ev e (d + (3 * e + 9)) mX12_unit [] B01 (unE t e)
  | 0, d, _ => un_M (d := d + 6) ht hR hX hE (by decide) (cmF_M (d := d + 5) ht hR hX hE (sumM ht hR hX hE 0 d (by decide))) (fun e' h => by omega) (fun e' h => by omega)
  | e + 1, d, he => by
    rw [show d + (3 * (e + 1) + 9) = (d + 3 * e + 9) + 3 by omega]
    have s0 := sumM (l := l) (D := D) (cA := cA) (ad := ad) ht hR hX hE (e + 1) d he
    rw [show d + (3 * (e + 1) + 7) = (d + 3 * e + 8) + 2 by omega] at s0
    refine un_M ht hR hX hE he (cmF_M (d := d + 3 * e + 8) ht hR hX hE s0) (fun e' h => ?_) (fun e' h => ?_)
    · obtain rfl : e = e' := by omega
      have u0 := unitM (l := l) (D := D) (cA := cA) (ad := ad) ht hR hX hE e (d + 2) (by omega)
      rw [show d + 2 + (3 * e + 9) = (d + 3 * e + 9) + 2 by omega] at u0
      exact u0
    · obtain rfl : e = e' := by omega
      have u0 := unitM (l := l) (D := D) (cA := cA) (ad := ad) ht hR hX hE e d (by omega)
      rw [show d + (3 * e + 9) = (d + 3 * e + 7) + 2 by omega] at u0
      have p0 := paF_M (d := d + 3 * e + 7) ht hR hX hE u0
      have c0 := cd_M (d := d + 3 * e + 8) ht hR hX hE (paS_ex (unE_ex e)) p0 p0
      rw [cnS_pa] at c0
      exact c0
theorem condM {l : Launch} {D : va_G} {cA ad : Nat → Nat} {tx b : Nat} {τ : AS} {ev : Nat → Int} {t : List Nat} (ht : TOK t) (hR : RO τ) (hX : TX τ tx b t) (hE : EV τ ev) (d : Nat) : PrsM l D cA ad t τ ev 6 (d + 29) mX12_condition [.int (iI 0), .int (iI 0)] B01 (cdS t (unE t 6)) := by
  have p0 := paF_M (d := d + 25) ht hR hX hE (unitM (l := l) (D := D) (cA := cA) (ad := ad) ht hR hX hE 6 d (by decide))
  have c0 := cd_M (d := d + 26) ht hR hX hE (paS_ex (unE_ex 6)) p0 p0
  rw [cnS_pa] at c0
  exact c0
theorem conTM {l : Launch} {D : va_G} {cA ad : Nat → Nat} {tx b : Nat} {τ : AS} {ev : Nat → Int} {t : List Nat} {x : CV} (ht : TOK t) (hR : RO τ) (hX : TX τ tx b t) (hE : EV τ ev) (hx : Ex false 15 x) (d : Nat) : PrsM l D cA ad t τ ev 6 (d + 29) mX12_condition [.int (iI 1), .int (iI (x.2 ev))] B01 (cnS t 6 (ptS t 6 x)) := by
  have u0 := unitM (l := l) (D := D) (cA := cA) (ad := ad) ht hR hX hE 6 d (by decide)
  have p0 := paF_M (d := d + 25) ht hR hX hE u0
  have s0 := sumM (l := l) (D := D) (cA := cA) (ad := ad) ht hR hX hE 6 (d + 1) (by decide)
  have k0 := cmT_M (d := d + 24) ht hR hX hE s0 (hx.bd (fun j hj => (hE j hj).2))
  have p1 := paT_M (e := 6) (d := d + 25) ht hR hX hE hx k0 u0
  refine cd_M (d := d + 26) ht hR hX hE (fun a q c h => ?_) p1 p0
  unfold ptS at h
  cases e1 : cpS t 6 a x with
  | mk p oc =>
    rw [e1] at h
    cases oc with
    | none => cases h
    | some u => exact muS_ex (m := 16) (cpS_ex hx (by decide) (by decide) e1) (by decide) (by decide) h
