theorem lp_tm_M {l : Launch} {D : va_G} {cA ad : Nat → Nat} {d e tx b : Nat} {τ : AS} {ev : Nat → Int} {t : List Nat} {K : Option Value → AS → Prop} {S0 : RS} (ht : TOK t) (hR : RO τ) (hX : TX τ tx b t) (hE : EV τ ev) (hgd : GD t (atS t (recE t e))) (hit : PrsM l D cA ad t τ ev e (d + 2) mX12_atom [] BAn (atS t (recE t e))) (hK1 : ∀ q v w, S0 = (q, none) → q ≤ t.length → BAn v → K (some (.int v)) (msa (md τ w) q q)) (hK2 : ∀ q c, S0 = (q, some c) → q ≤ t.length → K (some (.int (iI (c.2 ev)))) (msa (md τ (dw e)) q (-1))) : ∀ (n a : Nat) (v2 : Value) (v3 : Value) (c : CV), t.length - a < n → a ≤ t.length → Ex false (2 * e + 2) c → S0 = lpS t (atS t (recE t e)) 42 47 (-13) (-14) n a c → Go l D cA ad (d + 3) mX12_term 5 [.ref 111, .int (iI (c.2 ev)), v2, v3, .null] [] (msa (md τ (dw e)) a (-1)) K := by
  have ht1 := ht.1
  have hXm : ∀ w, TX (md τ w) tx b t := fun w => TX_md hX
  have hX8 : ∀ w, (md τ w).1 111 8 = iI b := fun w => by rw [md_fd (by decide)]; exact hX.2.2.1
  have hcq : ∀ (c x : CV) {a' q' : Nat}, Ex false (2 * e + 2) c → atS t (recE t e) a' = (q', some x) → ∀ {o : Int}, (o = -11 ∨ o = -12 ∨ o = -13 ∨ o = -14) → Ex false (2 * e + 2) (cvB o c x) := fun c x a' q' hc hx o ho => Ex.ari hc (atE_ex e _ _ _ hx) ho (by omega) (by omega)
  intro n
  induction n with
  | zero => intro a v2 v3 c h; omega
  | succ n ih =>
  intro a v2 v3 c hn ha hc hres
  have hcb : bd6 (c.2 ev) := hc.bd (fun j hj => (hE j hj).2)
  have hch := ch_lt ht (sk t a)
  have hsk := sk_le ha
  have hsg := sk_ge t a
  refine go_aload_n dX12_term_5 rfl ?_
  refine go_getI fX12_128 dX12_term_6 rfl ?_
  refine go_iconst (v := iI (-1)) dX12_term_9 (by decide) ?_
  refine go_icmp_ne (tgt := 94) dX12_term_10 (by decide) (fun h10 => ?_) (fun h10 => ?_)
  · rw [msa_ft] at h10
    exact absurd rfl h10
  · refine go_aload_n dX12_term_13 rfl ?_
    refine go_callV (as := []) wX12_138 dX12_term_14 rfl rfl rfl rfl (Nat.le_of_ble_eq_true rfl) (ct_X12_look ht (hXm _) ha ?_)
    refine go_bipush (v := iI 42) dX12_term_17 (by decide) ?_
    refine go_icmp_eq (tgt := 31) dX12_term_19 (by decide) (fun h19 => ?_) (fun h19 => ?_)
    · rw [iI_eq (by omega)] at h19
      refine go_aload_n dX12_term_31 rfl ?_
      refine go_callV (as := []) wX12_138 dX12_term_32 rfl rfl rfl rfl (Nat.le_of_ble_eq_true rfl) (ct_X12_look ht (hXm _) hsk ?_)
      rw [sk_sk]
      refine go_bipush (v := iI 42) dX12_term_35 (by decide) ?_
      refine go_icmp_ne (tgt := 44) dX12_term_37 (by decide) (fun h37 => ?_) (fun h37 => ?_)
      · exfalso
        rw [iI_eq (by omega)] at h37
        omega
      · refine go_iconst (v := iI 1) dX12_term_40 (by decide) ?_
        refine go_goto (tgt := 45) dX12_term_41 (by decide) ?_
        refine go_istore_n dX12_term_45 (Nat.le_of_ble_eq_true rfl) rfl ?_
        refine go_aload_n dX12_term_46 rfl ?_
        refine go_dup dX12_term_47 rfl ?_
        refine go_getI fX12_119 dX12_term_48 rfl ?_
        refine go_iconst (v := iI 1) dX12_term_51 (by decide) ?_
        refine go_iadd dX12_term_52 ?_
        refine go_putI fX12_119 rfl dX12_term_53 rfl rfl rfl ?_
        rw [msa_inc]
        have hp1 := sk_lt_of (t := t) (a := a) (c := ch t (sk t a)) rfl (by omega)
        refine go_aload_n dX12_term_56 rfl ?_
        refine go_callV (as := []) wX12_171 dX12_term_57 rfl rfl rfl rfl (Nat.le_of_ble_eq_true rfl) (hit _ (sk t a + 1) hp1 (fun q v w hq hle hB => ?_) (fun q x hq hle => ?_))
        · refine go_i2l dX12_term_60 ?_
          refine go_lstore_n dX12_term_61 (Nat.le_of_ble_eq_true rfl) rfl ?_
          refine go_iload_n dX12_term_62 rfl ?_
          refine go_if_eq (tgt := 73) dX12_term_63 (by decide) (fun h63 => ?_) (fun h63 => ?_)
          · exact absurd h63 (by decide)
          · refine go_iload_n dX12_term_66 rfl ?_
            refine go_i2l dX12_term_67 ?_
            refine go_lload_n dX12_term_68 rfl ?_
            refine go_lmul dX12_term_69 ?_
            refine go_goto (tgt := 87) dX12_term_70 (by decide) ?_
            refine go_callS (as := [_]) wX12_174 dX12_term_87 rfl rfl (Nat.le_of_ble_eq_true rfl) (ct_X12_within ?_)
            refine go_istore_n dX12_term_90 (Nat.le_of_ble_eq_true rfl) rfl ?_
            refine go_goto (tgt := 5) dX12_term_91 (by decide) ?_
            simp only [List.set]
            refine go_aload_n dX12_term_5 rfl ?_
            refine go_getI fX12_128 dX12_term_6 rfl ?_
            refine go_iconst (v := iI (-1)) dX12_term_9 (by decide) ?_
            refine go_icmp_ne (tgt := 94) dX12_term_10 (by decide) (fun h10 => ?_) (fun h10 => ?_)
            · refine go_iload_n dX12_term_94 rfl ?_
              refine go_iret rfl rfl dX12_term_95 ?_
              exact hK1 _ _ _ (hres.trans (lpS_1 h19 hq)) hle rfl
            · exfalso
              rw [msa_ft, iI_eq (by omega)] at h10
              omega
        · have hxb : bd6 (x.2 ev) := (atE_ex e _ _ _ hq).bd (fun j hj => (hE j hj).2)
          have hgi := hgd (sk t a + 1) hp1
          rw [hq] at hgi
          dsimp only at hgi
          refine go_i2l dX12_term_60 ?_
          refine go_lstore_n dX12_term_61 (Nat.le_of_ble_eq_true rfl) rfl ?_
          refine go_iload_n dX12_term_62 rfl ?_
          refine go_if_eq (tgt := 73) dX12_term_63 (by decide) (fun h63 => ?_) (fun h63 => ?_)
          · exact absurd h63 (by decide)
          · refine go_iload_n dX12_term_66 rfl ?_
            refine go_i2l dX12_term_67 ?_
            refine go_lload_n dX12_term_68 rfl ?_
            refine go_lmul dX12_term_69 ?_
            refine go_goto (tgt := 87) dX12_term_70 (by decide) ?_
            refine go_callS (as := [_]) wX12_174 dX12_term_87 rfl rfl (Nat.le_of_ble_eq_true rfl) (ct_X12_within ?_)
            refine go_istore_n dX12_term_90 (Nat.le_of_ble_eq_true rfl) rfl ?_
            refine go_goto (tgt := 5) dX12_term_91 (by decide) ?_
            simp only [List.set]
            rw [wi_mul hcb hxb]
            exact ih q _ _ (cvB (-13) c x) (by omega) hle (hcq c x hc hq (by omega)) (hres.trans (lpS_2 h19 hq))
    · rw [iI_eq (by omega)] at h19
      refine go_aload_n dX12_term_22 rfl ?_
      refine go_callV (as := []) wX12_138 dX12_term_23 rfl rfl rfl rfl (Nat.le_of_ble_eq_true rfl) (ct_X12_look ht (hXm _) hsk ?_)
      rw [sk_sk]
      refine go_bipush (v := iI 47) dX12_term_26 (by decide) ?_
      refine go_icmp_ne (tgt := 94) dX12_term_28 (by decide) (fun h28 => ?_) (fun h28 => ?_)
      · rw [iI_eq (by omega)] at h28
        refine go_iload_n dX12_term_94 rfl ?_
        refine go_iret rfl rfl dX12_term_95 ?_
        exact hK2 _ _ (hres.trans (lpS_5 h19 h28)) hsk
      · rw [iI_eq (by omega)] at h28
        refine go_aload_n dX12_term_31 rfl ?_
        refine go_callV (as := []) wX12_138 dX12_term_32 rfl rfl rfl rfl (Nat.le_of_ble_eq_true rfl) (ct_X12_look ht (hXm _) hsk ?_)
        rw [sk_sk]
        refine go_bipush (v := iI 42) dX12_term_35 (by decide) ?_
        refine go_icmp_ne (tgt := 44) dX12_term_37 (by decide) (fun h37 => ?_) (fun h37 => ?_)
        · refine go_iconst (v := iI 0) dX12_term_44 (by decide) ?_
          refine go_istore_n dX12_term_45 (Nat.le_of_ble_eq_true rfl) rfl ?_
          refine go_aload_n dX12_term_46 rfl ?_
          refine go_dup dX12_term_47 rfl ?_
          refine go_getI fX12_119 dX12_term_48 rfl ?_
          refine go_iconst (v := iI 1) dX12_term_51 (by decide) ?_
          refine go_iadd dX12_term_52 ?_
          refine go_putI fX12_119 rfl dX12_term_53 rfl rfl rfl ?_
          rw [msa_inc]
          have hp1 := sk_lt_of (t := t) (a := a) (c := ch t (sk t a)) rfl (by omega)
          refine go_aload_n dX12_term_56 rfl ?_
          refine go_callV (as := []) wX12_171 dX12_term_57 rfl rfl rfl rfl (Nat.le_of_ble_eq_true rfl) (hit _ (sk t a + 1) hp1 (fun q v w hq hle hB => ?_) (fun q x hq hle => ?_))
          · refine go_i2l dX12_term_60 ?_
            refine go_lstore_n dX12_term_61 (Nat.le_of_ble_eq_true rfl) rfl ?_
            refine go_iload_n dX12_term_62 rfl ?_
            refine go_if_eq (tgt := 73) dX12_term_63 (by decide) (fun h63 => ?_) (fun h63 => ?_)
            · refine go_lload_n dX12_term_73 rfl ?_
              refine go_lconst (v := 0) dX12_term_74 (by decide) ?_
              refine go_lcmp dX12_term_75 ?_
              refine go_if_ne (tgt := 83) dX12_term_76 (by decide) (fun h76 => ?_) (fun h76 => ?_)
              · skip
                refine go_iload_n dX12_term_83 rfl ?_
                refine go_i2l dX12_term_84 ?_
                refine go_lload_n dX12_term_85 rfl ?_
                refine go_ldiv dX12_term_86 (fun q => h76 (lcmp0.mpr q)) ?_
                refine go_callS (as := [_]) wX12_174 dX12_term_87 rfl rfl (Nat.le_of_ble_eq_true rfl) (ct_X12_within ?_)
                refine go_istore_n dX12_term_90 (Nat.le_of_ble_eq_true rfl) rfl ?_
                refine go_goto (tgt := 5) dX12_term_91 (by decide) ?_
                simp only [List.set]
                refine go_aload_n dX12_term_5 rfl ?_
                refine go_getI fX12_128 dX12_term_6 rfl ?_
                refine go_iconst (v := iI (-1)) dX12_term_9 (by decide) ?_
                refine go_icmp_ne (tgt := 94) dX12_term_10 (by decide) (fun h10 => ?_) (fun h10 => ?_)
                · refine go_iload_n dX12_term_94 rfl ?_
                  refine go_iret rfl rfl dX12_term_95 ?_
                  exact hK1 _ _ _ (hres.trans (lpS_3 h19 h28 hq)) hle rfl
                · exfalso
                  rw [msa_ft, iI_eq (by omega)] at h10
                  omega
              · skip
                refine go_lconst (v := 0) dX12_term_79 (by decide) ?_
                refine go_goto (tgt := 87) dX12_term_80 (by decide) ?_
                refine go_callS (as := [_]) wX12_174 dX12_term_87 rfl rfl (Nat.le_of_ble_eq_true rfl) (ct_X12_within ?_)
                refine go_istore_n dX12_term_90 (Nat.le_of_ble_eq_true rfl) rfl ?_
                refine go_goto (tgt := 5) dX12_term_91 (by decide) ?_
                simp only [List.set]
                refine go_aload_n dX12_term_5 rfl ?_
                refine go_getI fX12_128 dX12_term_6 rfl ?_
                refine go_iconst (v := iI (-1)) dX12_term_9 (by decide) ?_
                refine go_icmp_ne (tgt := 94) dX12_term_10 (by decide) (fun h10 => ?_) (fun h10 => ?_)
                · refine go_iload_n dX12_term_94 rfl ?_
                  refine go_iret rfl rfl dX12_term_95 ?_
                  exact hK1 _ _ _ (hres.trans (lpS_3 h19 h28 hq)) hle rfl
                · exfalso
                  rw [msa_ft, iI_eq (by omega)] at h10
                  omega
            · exact absurd h63 (by decide)
          · have hxb : bd6 (x.2 ev) := (atE_ex e _ _ _ hq).bd (fun j hj => (hE j hj).2)
            have hgi := hgd (sk t a + 1) hp1
            rw [hq] at hgi
            dsimp only at hgi
            refine go_i2l dX12_term_60 ?_
            refine go_lstore_n dX12_term_61 (Nat.le_of_ble_eq_true rfl) rfl ?_
            refine go_iload_n dX12_term_62 rfl ?_
            refine go_if_eq (tgt := 73) dX12_term_63 (by decide) (fun h63 => ?_) (fun h63 => ?_)
            · refine go_lload_n dX12_term_73 rfl ?_
              refine go_lconst (v := 0) dX12_term_74 (by decide) ?_
              refine go_lcmp dX12_term_75 ?_
              refine go_if_ne (tgt := 83) dX12_term_76 (by decide) (fun h76 => ?_) (fun h76 => ?_)
              · have h7 : x.2 ev ≠ 0 := fun q => h76 ((cmp_z hxb).mpr q)
                refine go_iload_n dX12_term_83 rfl ?_
                refine go_i2l dX12_term_84 ?_
                refine go_lload_n dX12_term_85 rfl ?_
                refine go_ldiv dX12_term_86 (fun q => h76 (lcmp0.mpr q)) ?_
                refine go_callS (as := [_]) wX12_174 dX12_term_87 rfl rfl (Nat.le_of_ble_eq_true rfl) (ct_X12_within ?_)
                refine go_istore_n dX12_term_90 (Nat.le_of_ble_eq_true rfl) rfl ?_
                refine go_goto (tgt := 5) dX12_term_91 (by decide) ?_
                simp only [List.set]
                rw [wi_div hcb hxb h7]
                exact ih q _ _ (cvB (-14) c x) (by omega) hle (hcq c x hc hq (by omega)) (hres.trans (lpS_4 h19 h28 hq))
              · have h7 := (cmp_z hxb).mp h76
                refine go_lconst (v := 0) dX12_term_79 (by decide) ?_
                refine go_goto (tgt := 87) dX12_term_80 (by decide) ?_
                refine go_callS (as := [_]) wX12_174 dX12_term_87 rfl rfl (Nat.le_of_ble_eq_true rfl) (ct_X12_within ?_)
                refine go_istore_n dX12_term_90 (Nat.le_of_ble_eq_true rfl) rfl ?_
                refine go_goto (tgt := 5) dX12_term_91 (by decide) ?_
                simp only [List.set]
                rw [wi_dv0 (a := c.2 ev) h7]
                exact ih q _ _ (cvB (-14) c x) (by omega) hle (hcq c x hc hq (by omega)) (hres.trans (lpS_4 h19 h28 hq))
            · exact absurd h63 (by decide)
        · exfalso
          rw [iI_eq (by omega)] at h37
          omega
theorem tm_M {l : Launch} {D : va_G} {cA ad : Nat → Nat} {d e tx b : Nat} {τ : AS} {ev : Nat → Int} {t : List Nat} (ht : TOK t) (hR : RO τ) (hX : TX τ tx b t) (hE : EV τ ev) (hgd : GD t (atS t (recE t e))) (hit : PrsM l D cA ad t τ ev e (d + 2) mX12_atom [] BAn (atS t (recE t e))) : PrsM l D cA ad t τ ev e (d + 3) mX12_term [] BAn (rnS t (atS t (recE t e)) 42 47 (-13) (-14)) := by
  intro K a ha hK1 hK2
  have ht1 := ht.1
  refine call_go (by decide) (Nat.le_of_ble_eq_true rfl) (show Go l D cA ad (d + 3) mX12_term 0 [.ref 111, .null, .null, .null, .null] [] (msa (md τ (dw e)) a (-1)) K from ?_)
  refine go_aload_n dX12_term_0 rfl ?_
  refine go_callV (as := []) wX12_171 dX12_term_1 rfl rfl rfl rfl (Nat.le_of_ble_eq_true rfl) (hit _ a ha (fun q v w hq hle hB => ?_) (fun q x hq hle => ?_))
  · refine go_istore_n dX12_term_4 (Nat.le_of_ble_eq_true rfl) rfl ?_
    simp only [List.set]
    refine go_aload_n dX12_term_5 rfl ?_
    refine go_getI fX12_128 dX12_term_6 rfl ?_
    refine go_iconst (v := iI (-1)) dX12_term_9 (by decide) ?_
    refine go_icmp_ne (tgt := 94) dX12_term_10 (by decide) (fun h10 => ?_) (fun h10 => ?_)
    · refine go_iload_n dX12_term_94 rfl ?_
      refine go_iret rfl rfl dX12_term_95 ?_
      exact hK1 _ _ _ (rnS_0 hq) hle rfl
    · exfalso
      rw [msa_ft, iI_eq (by omega)] at h10
      omega
  · refine go_istore_n dX12_term_4 (Nat.le_of_ble_eq_true rfl) rfl ?_
    simp only [List.set]
    exact lp_tm_M ht hR hX hE hgd hit hK1 hK2 242 q _ _ x (by omega) hle ((atE_ex e _ _ _ hq).mono (by omega)) (rnS_1 hq)
theorem lp_sm_M {l : Launch} {D : va_G} {cA ad : Nat → Nat} {d e tx b : Nat} {τ : AS} {ev : Nat → Int} {t : List Nat} {K : Option Value → AS → Prop} {S0 : RS} (ht : TOK t) (hR : RO τ) (hX : TX τ tx b t) (hE : EV τ ev) (hgd : GD t (tmS t (recE t e))) (hit : PrsM l D cA ad t τ ev e (d + 2) mX12_term [] BAn (tmS t (recE t e))) (hK1 : ∀ q v w, S0 = (q, none) → q ≤ t.length → BAn v → K (some (.int v)) (msa (md τ w) q q)) (hK2 : ∀ q c, S0 = (q, some c) → q ≤ t.length → K (some (.int (iI (c.2 ev)))) (msa (md τ (dw e)) q (-1))) : ∀ (n a : Nat) (v2 : Value) (v3 : Value) (c : CV), t.length - a < n → a ≤ t.length → Ex false (2 * e + 3) c → S0 = lpS t (tmS t (recE t e)) 43 45 (-11) (-12) n a c → Go l D cA ad (d + 3) mX12_sum 5 [.ref 111, .int (iI (c.2 ev)), v2, v3, .null] [] (msa (md τ (dw e)) a (-1)) K := by
  have ht1 := ht.1
  have hXm : ∀ w, TX (md τ w) tx b t := fun w => TX_md hX
  have hX8 : ∀ w, (md τ w).1 111 8 = iI b := fun w => by rw [md_fd (by decide)]; exact hX.2.2.1
  have hcq : ∀ (c x : CV) {a' q' : Nat}, Ex false (2 * e + 3) c → tmS t (recE t e) a' = (q', some x) → ∀ {o : Int}, (o = -11 ∨ o = -12 ∨ o = -13 ∨ o = -14) → Ex false (2 * e + 3) (cvB o c x) := fun c x a' q' hc hx o ho => Ex.ari hc (tmE_ex e _ _ _ hx) ho (by omega) (by omega)
  intro n
  induction n with
  | zero => intro a v2 v3 c h; omega
  | succ n ih =>
  intro a v2 v3 c hn ha hc hres
  have hcb : bd6 (c.2 ev) := hc.bd (fun j hj => (hE j hj).2)
  have hch := ch_lt ht (sk t a)
  have hsk := sk_le ha
  have hsg := sk_ge t a
  refine go_aload_n dX12_sum_5 rfl ?_
  refine go_getI fX12_128 dX12_sum_6 rfl ?_
  refine go_iconst (v := iI (-1)) dX12_sum_9 (by decide) ?_
  refine go_icmp_ne (tgt := 84) dX12_sum_10 (by decide) (fun h10 => ?_) (fun h10 => ?_)
  · rw [msa_ft] at h10
    exact absurd rfl h10
  · refine go_aload_n dX12_sum_13 rfl ?_
    refine go_callV (as := []) wX12_138 dX12_sum_14 rfl rfl rfl rfl (Nat.le_of_ble_eq_true rfl) (ct_X12_look ht (hXm _) ha ?_)
    refine go_bipush (v := iI 43) dX12_sum_17 (by decide) ?_
    refine go_icmp_eq (tgt := 31) dX12_sum_19 (by decide) (fun h19 => ?_) (fun h19 => ?_)
    · rw [iI_eq (by omega)] at h19
      refine go_aload_n dX12_sum_31 rfl ?_
      refine go_callV (as := []) wX12_138 dX12_sum_32 rfl rfl rfl rfl (Nat.le_of_ble_eq_true rfl) (ct_X12_look ht (hXm _) hsk ?_)
      rw [sk_sk]
      refine go_bipush (v := iI 43) dX12_sum_35 (by decide) ?_
      refine go_icmp_ne (tgt := 44) dX12_sum_37 (by decide) (fun h37 => ?_) (fun h37 => ?_)
      · exfalso
        rw [iI_eq (by omega)] at h37
        omega
      · refine go_iconst (v := iI 1) dX12_sum_40 (by decide) ?_
        refine go_goto (tgt := 45) dX12_sum_41 (by decide) ?_
        refine go_istore_n dX12_sum_45 (Nat.le_of_ble_eq_true rfl) rfl ?_
        refine go_aload_n dX12_sum_46 rfl ?_
        refine go_dup dX12_sum_47 rfl ?_
        refine go_getI fX12_119 dX12_sum_48 rfl ?_
        refine go_iconst (v := iI 1) dX12_sum_51 (by decide) ?_
        refine go_iadd dX12_sum_52 ?_
        refine go_putI fX12_119 rfl dX12_sum_53 rfl rfl rfl ?_
        rw [msa_inc]
        have hp1 := sk_lt_of (t := t) (a := a) (c := ch t (sk t a)) rfl (by omega)
        refine go_aload_n dX12_sum_56 rfl ?_
        refine go_callV (as := []) wX12_178 dX12_sum_57 rfl rfl rfl rfl (Nat.le_of_ble_eq_true rfl) (hit _ (sk t a + 1) hp1 (fun q v w hq hle hB => ?_) (fun q x hq hle => ?_))
        · refine go_i2l dX12_sum_60 ?_
          refine go_lstore_n dX12_sum_61 (Nat.le_of_ble_eq_true rfl) rfl ?_
          refine go_iload_n dX12_sum_62 rfl ?_
          refine go_if_eq (tgt := 73) dX12_sum_63 (by decide) (fun h63 => ?_) (fun h63 => ?_)
          · exact absurd h63 (by decide)
          · refine go_iload_n dX12_sum_66 rfl ?_
            refine go_i2l dX12_sum_67 ?_
            refine go_lload_n dX12_sum_68 rfl ?_
            refine go_ladd dX12_sum_69 ?_
            refine go_goto (tgt := 77) dX12_sum_70 (by decide) ?_
            refine go_callS (as := [_]) wX12_174 dX12_sum_77 rfl rfl (Nat.le_of_ble_eq_true rfl) (ct_X12_within ?_)
            refine go_istore_n dX12_sum_80 (Nat.le_of_ble_eq_true rfl) rfl ?_
            refine go_goto (tgt := 5) dX12_sum_81 (by decide) ?_
            simp only [List.set]
            refine go_aload_n dX12_sum_5 rfl ?_
            refine go_getI fX12_128 dX12_sum_6 rfl ?_
            refine go_iconst (v := iI (-1)) dX12_sum_9 (by decide) ?_
            refine go_icmp_ne (tgt := 84) dX12_sum_10 (by decide) (fun h10 => ?_) (fun h10 => ?_)
            · refine go_iload_n dX12_sum_84 rfl ?_
              refine go_iret rfl rfl dX12_sum_85 ?_
              exact hK1 _ _ _ (hres.trans (lpS_1 h19 hq)) hle rfl
            · exfalso
              rw [msa_ft, iI_eq (by omega)] at h10
              omega
        · have hxb : bd6 (x.2 ev) := (tmE_ex e _ _ _ hq).bd (fun j hj => (hE j hj).2)
          have hgi := hgd (sk t a + 1) hp1
          rw [hq] at hgi
          dsimp only at hgi
          refine go_i2l dX12_sum_60 ?_
          refine go_lstore_n dX12_sum_61 (Nat.le_of_ble_eq_true rfl) rfl ?_
          refine go_iload_n dX12_sum_62 rfl ?_
          refine go_if_eq (tgt := 73) dX12_sum_63 (by decide) (fun h63 => ?_) (fun h63 => ?_)
          · exact absurd h63 (by decide)
          · refine go_iload_n dX12_sum_66 rfl ?_
            refine go_i2l dX12_sum_67 ?_
            refine go_lload_n dX12_sum_68 rfl ?_
            refine go_ladd dX12_sum_69 ?_
            refine go_goto (tgt := 77) dX12_sum_70 (by decide) ?_
            refine go_callS (as := [_]) wX12_174 dX12_sum_77 rfl rfl (Nat.le_of_ble_eq_true rfl) (ct_X12_within ?_)
            refine go_istore_n dX12_sum_80 (Nat.le_of_ble_eq_true rfl) rfl ?_
            refine go_goto (tgt := 5) dX12_sum_81 (by decide) ?_
            simp only [List.set]
            rw [wi_add hcb hxb]
            exact ih q _ _ (cvB (-11) c x) (by omega) hle (hcq c x hc hq (by omega)) (hres.trans (lpS_2 h19 hq))
    · rw [iI_eq (by omega)] at h19
      refine go_aload_n dX12_sum_22 rfl ?_
      refine go_callV (as := []) wX12_138 dX12_sum_23 rfl rfl rfl rfl (Nat.le_of_ble_eq_true rfl) (ct_X12_look ht (hXm _) hsk ?_)
      rw [sk_sk]
      refine go_bipush (v := iI 45) dX12_sum_26 (by decide) ?_
      refine go_icmp_ne (tgt := 84) dX12_sum_28 (by decide) (fun h28 => ?_) (fun h28 => ?_)
      · rw [iI_eq (by omega)] at h28
        refine go_iload_n dX12_sum_84 rfl ?_
        refine go_iret rfl rfl dX12_sum_85 ?_
        exact hK2 _ _ (hres.trans (lpS_5 h19 h28)) hsk
      · rw [iI_eq (by omega)] at h28
        refine go_aload_n dX12_sum_31 rfl ?_
        refine go_callV (as := []) wX12_138 dX12_sum_32 rfl rfl rfl rfl (Nat.le_of_ble_eq_true rfl) (ct_X12_look ht (hXm _) hsk ?_)
        rw [sk_sk]
        refine go_bipush (v := iI 43) dX12_sum_35 (by decide) ?_
        refine go_icmp_ne (tgt := 44) dX12_sum_37 (by decide) (fun h37 => ?_) (fun h37 => ?_)
        · refine go_iconst (v := iI 0) dX12_sum_44 (by decide) ?_
          refine go_istore_n dX12_sum_45 (Nat.le_of_ble_eq_true rfl) rfl ?_
          refine go_aload_n dX12_sum_46 rfl ?_
          refine go_dup dX12_sum_47 rfl ?_
          refine go_getI fX12_119 dX12_sum_48 rfl ?_
          refine go_iconst (v := iI 1) dX12_sum_51 (by decide) ?_
          refine go_iadd dX12_sum_52 ?_
          refine go_putI fX12_119 rfl dX12_sum_53 rfl rfl rfl ?_
          rw [msa_inc]
          have hp1 := sk_lt_of (t := t) (a := a) (c := ch t (sk t a)) rfl (by omega)
          refine go_aload_n dX12_sum_56 rfl ?_
          refine go_callV (as := []) wX12_178 dX12_sum_57 rfl rfl rfl rfl (Nat.le_of_ble_eq_true rfl) (hit _ (sk t a + 1) hp1 (fun q v w hq hle hB => ?_) (fun q x hq hle => ?_))
          · refine go_i2l dX12_sum_60 ?_
            refine go_lstore_n dX12_sum_61 (Nat.le_of_ble_eq_true rfl) rfl ?_
            refine go_iload_n dX12_sum_62 rfl ?_
            refine go_if_eq (tgt := 73) dX12_sum_63 (by decide) (fun h63 => ?_) (fun h63 => ?_)
            · refine go_iload_n dX12_sum_73 rfl ?_
              refine go_i2l dX12_sum_74 ?_
              refine go_lload_n dX12_sum_75 rfl ?_
              refine go_lsub dX12_sum_76 ?_
              refine go_callS (as := [_]) wX12_174 dX12_sum_77 rfl rfl (Nat.le_of_ble_eq_true rfl) (ct_X12_within ?_)
              refine go_istore_n dX12_sum_80 (Nat.le_of_ble_eq_true rfl) rfl ?_
              refine go_goto (tgt := 5) dX12_sum_81 (by decide) ?_
              simp only [List.set]
              refine go_aload_n dX12_sum_5 rfl ?_
              refine go_getI fX12_128 dX12_sum_6 rfl ?_
              refine go_iconst (v := iI (-1)) dX12_sum_9 (by decide) ?_
              refine go_icmp_ne (tgt := 84) dX12_sum_10 (by decide) (fun h10 => ?_) (fun h10 => ?_)
              · refine go_iload_n dX12_sum_84 rfl ?_
                refine go_iret rfl rfl dX12_sum_85 ?_
                exact hK1 _ _ _ (hres.trans (lpS_3 h19 h28 hq)) hle rfl
              · exfalso
                rw [msa_ft, iI_eq (by omega)] at h10
                omega
            · exact absurd h63 (by decide)
          · have hxb : bd6 (x.2 ev) := (tmE_ex e _ _ _ hq).bd (fun j hj => (hE j hj).2)
            have hgi := hgd (sk t a + 1) hp1
            rw [hq] at hgi
            dsimp only at hgi
            refine go_i2l dX12_sum_60 ?_
            refine go_lstore_n dX12_sum_61 (Nat.le_of_ble_eq_true rfl) rfl ?_
            refine go_iload_n dX12_sum_62 rfl ?_
            refine go_if_eq (tgt := 73) dX12_sum_63 (by decide) (fun h63 => ?_) (fun h63 => ?_)
            · refine go_iload_n dX12_sum_73 rfl ?_
              refine go_i2l dX12_sum_74 ?_
              refine go_lload_n dX12_sum_75 rfl ?_
              refine go_lsub dX12_sum_76 ?_
              refine go_callS (as := [_]) wX12_174 dX12_sum_77 rfl rfl (Nat.le_of_ble_eq_true rfl) (ct_X12_within ?_)
              refine go_istore_n dX12_sum_80 (Nat.le_of_ble_eq_true rfl) rfl ?_
              refine go_goto (tgt := 5) dX12_sum_81 (by decide) ?_
              simp only [List.set]
              rw [wi_sub hcb hxb]
              exact ih q _ _ (cvB (-12) c x) (by omega) hle (hcq c x hc hq (by omega)) (hres.trans (lpS_4 h19 h28 hq))
            · exact absurd h63 (by decide)
        · exfalso
          rw [iI_eq (by omega)] at h37
          omega
theorem sm_M {l : Launch} {D : va_G} {cA ad : Nat → Nat} {d e tx b : Nat} {τ : AS} {ev : Nat → Int} {t : List Nat} (ht : TOK t) (hR : RO τ) (hX : TX τ tx b t) (hE : EV τ ev) (hgd : GD t (tmS t (recE t e))) (hit : PrsM l D cA ad t τ ev e (d + 2) mX12_term [] BAn (tmS t (recE t e))) : PrsM l D cA ad t τ ev e (d + 3) mX12_sum [] BAn (rnS t (tmS t (recE t e)) 43 45 (-11) (-12)) := by
  intro K a ha hK1 hK2
  have ht1 := ht.1
  refine call_go (by decide) (Nat.le_of_ble_eq_true rfl) (show Go l D cA ad (d + 3) mX12_sum 0 [.ref 111, .null, .null, .null, .null] [] (msa (md τ (dw e)) a (-1)) K from ?_)
  refine go_aload_n dX12_sum_0 rfl ?_
  refine go_callV (as := []) wX12_178 dX12_sum_1 rfl rfl rfl rfl (Nat.le_of_ble_eq_true rfl) (hit _ a ha (fun q v w hq hle hB => ?_) (fun q x hq hle => ?_))
  · refine go_istore_n dX12_sum_4 (Nat.le_of_ble_eq_true rfl) rfl ?_
    simp only [List.set]
    refine go_aload_n dX12_sum_5 rfl ?_
    refine go_getI fX12_128 dX12_sum_6 rfl ?_
    refine go_iconst (v := iI (-1)) dX12_sum_9 (by decide) ?_
    refine go_icmp_ne (tgt := 84) dX12_sum_10 (by decide) (fun h10 => ?_) (fun h10 => ?_)
    · refine go_iload_n dX12_sum_84 rfl ?_
      refine go_iret rfl rfl dX12_sum_85 ?_
      exact hK1 _ _ _ (rnS_0 hq) hle rfl
    · exfalso
      rw [msa_ft, iI_eq (by omega)] at h10
      omega
  · refine go_istore_n dX12_sum_4 (Nat.le_of_ble_eq_true rfl) rfl ?_
    simp only [List.set]
    exact lp_sm_M ht hR hX hE hgd hit hK1 hK2 242 q _ _ x (by omega) hle ((tmE_ex e _ _ _ hq).mono (by omega)) (rnS_1 hq)
theorem sumM {l : Launch} {D : va_G} {cA ad : Nat → Nat} {tx b : Nat} {τ : AS} {ev : Nat → Int} {t : List Nat} (ht : TOK t) (hR : RO τ) (hX : TX τ tx b t) (hE : EV τ ev) : ∀ (e d : Nat), e ≤ 6 → PrsM l D cA ad t τ ev e (d + (3 * e + 7)) mX12_sum [] BAn (smE t e)
  | 0, d, _ => by
    rw [smE_eq]
    exact sm_M (d := d + 4) ht hR hX hE (tmE_gd 0) (tm_M (d := d + 3) ht hR hX hE (atE_gd 0) (at_M (d := d) ht hR hX hE (by decide) (fun e' h => by omega)))
  | e + 1, d, he => by
    rw [smE_eq, show d + (3 * (e + 1) + 7) = (d + 3 * e + 3) + 4 + 3 by omega]
    refine sm_M ht hR hX hE (tmE_gd (e + 1)) (tm_M (d := d + 3 * e + 3 + 3) ht hR hX hE (atE_gd (e + 1)) (at_M (d := d + 3 * e + 3) ht hR hX hE he (fun e' h => ?_)))
    obtain rfl : e = e' := by omega
    have := sumM (l := l) (D := D) (cA := cA) (ad := ad) ht hR hX hE e d (by omega)
    rw [show d + (3 * e + 7) = d + 3 * e + 3 + 4 by omega] at this
    exact this
