def stOKp (x : ST) : Prop := 0 ≤ x.1 ∧ x.1 ≤ 3 ∧ 0 ≤ x.2.1 ∧ x.2.1 ≤ 9 ∧ (x.1 = 3 → 0 ≤ x.2.2 ∧ x.2.2 ≤ 9) ∧ (x.1 ≠ 3 → x.2.2 = -1)
def LOK (L : List ST) : Prop := L.length ≤ 16 ∧ ∀ x ∈ L, stOKp x
theorem stepS_ok {t : List Nat} {a q : Nat} {x : ST} (h : stepS t a = (q, some x)) : stOKp x ∧ a < q := by
  have k0 := sk_ge t a
  cases e : spG 5 (ch t (sk t a)) with
  | none => rw [stepS_0 e] at h; cases h
  | some k =>
    have hk4 : k < 4 := by have := (spG_lt e).1; rw [sG_511.1] at this; exact this
    have k1 := sk_ge t (sk t a + 1)
    by_cases d1 : isD t (sk t (sk t a + 1))
    · have u1 := d1
      unfold isD at u1
      by_cases hk : k = 3
      · subst hk
        have k2 := sk_ge t (sk t (sk t a + 1) + 1)
        by_cases d2 : isD t (sk t (sk t (sk t a + 1) + 1))
        · have u2 := d2
          unfold isD at u2
          rw [stepS_4 e d1 d2] at h
          cases h
          unfold stOKp
          dsimp only
          omega
        · rw [stepS_3 e d1 d2] at h; cases h
      · rw [stepS_2 e d1 hk] at h
        cases h
        unfold stOKp
        dsimp only
        omega
    · rw [stepS_1 e d1] at h; cases h
theorem LOK_push {L : List ST} {x : ST} (h : LOK L) (hl : L.length < 16) (hx : stOKp x) : LOK (L ++ [x]) := ⟨by rw [List.length_append]; exact hl, fun y hy => by
  rcases List.mem_append.mp hy with h1 | h1
  · exact h.2 y h1
  · rcases List.mem_cons.mp h1 with e | e
    · rw [e]; exact hx
    · cases e⟩
theorem PLC_push {σ τ : AS} {b : Nat} {L : List ST} {x : ST} (h : PLC σ b L) (h0 : τ.1 b 3 = iI ((L.length + 1 : Nat) : Int)) (h1 : τ.1 (b + 1) = upd (σ.1 (b + 1)) L.length (iI x.1)) (h2 : τ.1 (b + 2) = upd (σ.1 (b + 2)) L.length (iI x.2.1)) (h3 : τ.1 (b + 3) = upd (σ.1 (b + 3)) L.length (iI x.2.2)) : PLC τ b (L ++ [x]) := by
  refine ⟨by rw [h0, List.length_append]; rfl, fun i y hy => ?_⟩
  by_cases hi : i < L.length
  · rw [List.getElem?_append_left hi] at hy
    rw [h1, h2, h3, upd_ne _ _ _ _ (by omega), upd_ne _ _ _ _ (by omega), upd_ne _ _ _ _ (by omega)]
    exact h.2 i y hy
  · rw [List.getElem?_append_right (by omega)] at hy
    have e : i = L.length := by have := (List.getElem?_eq_some_iff.mp hy).1; simp at this; omega
    subst e
    simp at hy
    subst hy
    rw [h1, h2, h3, upd_same, upd_same, upd_same]
    exact ⟨rfl, rfl, rfl⟩
theorem it_X7_readFrom {l : Launch} {D : va_G} {cA ad : Nat → Nat} {d : Nat} {σ : AS} {K : Option Value → AS → Prop} {t : List Nat} (ht : TOK t) (hK1 : ∀ q τ, Fr 83 86 σ τ → plS t 17 0 [] = (q, none) → K (some (.int (iI 0))) (atc τ q)) (hK2 : ∀ q L τ, Fr 83 86 σ τ → plS t 17 0 [] = (q, some L) → PLC τ 83 L → LOK L → K (some (.int (iI 1))) (atc τ q)) : ∀ (n a : Nat) (L : List ST) (τ : AS), n + L.length = 17 → L.length < 16 → a ≤ t.length → RO τ → TC τ t → Fr 83 86 σ τ → PLC τ 83 L → LOK L → plS t 17 0 [] = plS t n a L → Go l D cA ad (d + 5) mX7_readFrom 12 [.ref 83, .ref 1, .int (iI L.length)] [] (atc τ a) K := by
  have ht1 := ht.1
  intro n
  induction n with
  | zero => intro a L τ h; omega
  | succ n ih =>
  intro a L τ hn hk16 ha hR hT hfr hp hL hres
  refine go_iload_n dX7_readFrom_12 rfl ?_
  refine go_bipush (v := iI 16) dX7_readFrom_13 (by decide) ?_
  refine go_icmp_ge (tgt := 75) dX7_readFrom_15 (by decide) (fun h15 => ?_) (fun h15 => ?_)
  · exfalso
    rw [iI_le (by omega)] at h15
    omega
  · refine go_aload_n dX7_readFrom_18 rfl ?_
    refine go_aload_n dX7_readFrom_19 rfl ?_
    refine go_iload_n dX7_readFrom_20 rfl ?_
    refine go_callV (as := [_, _]) wX7_36 dX7_readFrom_21 rfl rfl rfl rfl (Nat.le_of_ble_eq_true rfl) (ct_X7_readStep ht hR hT ha hk16 (fun q τ' fr hq => ?_) (fun q x τ' fr hq e1 e2 e3 => ?_))
    · refine go_if_ne (tgt := 29) dX7_readFrom_24 (by decide) (fun h24 => ?_) (fun h24 => ?_)
      · exact absurd h24 (by decide)
      · refine go_iconst (v := iI 0) dX7_readFrom_27 (by decide) ?_
        refine go_iret rfl rfl dX7_readFrom_28 ?_
        exact hK1 _ _ (hfr.tr ⟨fr.1, fun k hk => fr.2 k (by omega)⟩) (hres.trans (plS_f hq))
    · have hR' : RO τ' := fr.RO hR
      have hT' : TC τ' t := fr.TC hT (by decide)
      have hle : q ≤ t.length := by
        have := stepS_le ha
        rw [hq] at this
        exact this
      have hskq := sk_le hle
      have hchq := ch_lt ht (sk t q)
      have hx := stepS_ok hq
      refine go_if_ne (tgt := 29) dX7_readFrom_24 (by decide) (fun h24 => ?_) (fun h24 => ?_)
      · refine go_aload_n dX7_readFrom_29 rfl ?_
        refine go_dup dX7_readFrom_30 rfl ?_
        refine go_getI fX7_27 dX7_readFrom_31 rfl ?_
        refine go_iconst (v := iI 1) dX7_readFrom_34 (by decide) ?_
        refine go_iadd dX7_readFrom_35 ?_
        refine go_putI fX7_27 rfl dX7_readFrom_36 rfl rfl rfl ?_
        rw [atc_fd (by decide), atc_ne _ _ _ (by decide), fr.2 83 (by decide), hp.1, iI_add, show ((L.length : Int) + 1) = ((L.length + 1 : Nat) : Int) by omega]
        have hfr' : Fr 83 86 σ (sI τ' 83 (upd (τ.1 83) 3 (iI ((L.length + 1 : Nat) : Int)))) := (hfr.tr ⟨fr.1, fun k hk => fr.2 k (by omega)⟩).sI (by decide) (by decide)
        have hT2 : TC (sI τ' 83 (upd (τ.1 83) 3 (iI ((L.length + 1 : Nat) : Int)))) t := TC_sI hT' (by decide) (by decide)
        have hp2 : PLC (sI τ' 83 (upd (τ.1 83) 3 (iI ((L.length + 1 : Nat) : Int)))) 83 (L ++ [x]) := by
          refine PLC_push hp ?_ ?_ ?_ ?_
          · rw [sI_same, upd_same]
          · rw [sI_ne _ _ _ _ (by decide)]; exact e1
          · rw [sI_ne _ _ _ _ (by decide)]; exact e2
          · rw [sI_ne _ _ _ _ (by decide)]; exact e3
        refine go_aload_n dX7_readFrom_39 rfl ?_
        refine go_callV (as := []) wX7_40 dX7_readFrom_40 rfl rfl rfl rfl (Nat.le_of_ble_eq_true rfl) (ct_X8_look ht hR' hT2 hle ?_)
        refine go_iconst (v := iI (-1)) dX7_readFrom_43 (by decide) ?_
        refine go_icmp_ne (tgt := 49) dX7_readFrom_44 (by decide) (fun h44 => ?_) (fun h44 => ?_)
        · rw [iI_eq (by omega)] at h44
          refine go_aload_n dX7_readFrom_49 rfl ?_
          refine go_getI fX7_27 dX7_readFrom_50 rfl ?_
          refine go_bipush (v := iI 16) dX7_readFrom_53 (by decide) ?_
          refine go_icmp_eq (tgt := 67) dX7_readFrom_55 (by decide) (fun h55 => ?_) (fun h55 => ?_)
          · rw [atc_ne _ _ _ (by decide), sI_same, upd_same, iI_eq (by omega)] at h55
            refine go_iconst (v := iI 0) dX7_readFrom_67 (by decide) ?_
            refine go_iret rfl rfl dX7_readFrom_68 ?_
            exact hK1 _ _ hfr' (hres.trans (plS_x hq h44 (by omega)))
          · rw [atc_ne _ _ _ (by decide), sI_same, upd_same, iI_eq (by omega)] at h55
            refine go_aload_n dX7_readFrom_58 rfl ?_
            refine go_bipush (v := iI 59) dX7_readFrom_59 (by decide) ?_
            refine go_callV (as := [_]) wX7_44 dX7_readFrom_61 rfl rfl rfl rfl (Nat.le_of_ble_eq_true rfl) (ct_X8_take (c := 59) ht hR' hT2 hskq (by decide) (fun hne => ?_) (fun heq => ?_))
            · refine go_if_ne (tgt := 69) dX7_readFrom_64 (by decide) (fun h64 => ?_) (fun h64 => ?_)
              · exact absurd h64 (by decide)
              · refine go_iconst (v := iI 0) dX7_readFrom_67 (by decide) ?_
                refine go_iret rfl rfl dX7_readFrom_68 ?_
                rw [sk_sk] at hne ⊢
                exact hK1 _ _ hfr' (hres.trans (plS_x hq h44 (by omega)))
            · refine go_if_ne (tgt := 69) dX7_readFrom_64 (by decide) (fun h64 => ?_) (fun h64 => ?_)
              · refine go_iincI dX7_readFrom_69 rfl (Nat.le_of_ble_eq_true rfl) rfl ?_
                refine go_goto (tgt := 12) dX7_readFrom_72 (by decide) ?_
                simp only [List.set, iI_add]
                rw [sk_sk] at heq ⊢
                have h9 := ih (sk t q + 1) (L ++ [x]) (sI τ' 83 (upd (τ.1 83) 3 (iI ((L.length + 1 : Nat) : Int)))) (by rw [List.length_append]; show n + (L.length + 1) = 17; omega) (by rw [List.length_append]; show L.length + 1 < 16; omega) (lt_of_ch heq (by decide)) hR' hT2 hfr' hp2 (LOK_push hL hk16 hx.1) (hres.trans (plS_n hq heq (by omega)))
                rw [show ((L ++ [x]).length : Int) = (L.length : Int) + 1 by rw [List.length_append]; rfl] at h9
                exact h9
              · exact absurd h64 (by decide)
        · rw [iI_eq (by omega)] at h44
          refine go_iconst (v := iI 1) dX7_readFrom_47 (by decide) ?_
          refine go_iret rfl rfl dX7_readFrom_48 ?_
          exact hK2 _ _ _ hfr' (hres.trans (plS_e hq h44)) hp2 (LOK_push hL hk16 hx.1)
      · exact absurd h24 (by decide)
theorem ct_X7_readFrom {l : Launch} {D : va_G} {cA ad : Nat → Nat} {d : Nat} {σ : AS} {K : Option Value → AS → Prop} {t : List Nat} (ht : TOK t) (hR : RO σ) (hT : TC σ t) (hK1 : ∀ q τ, Fr 83 86 σ τ → plS t 17 0 [] = (q, none) → K (some (.int (iI 0))) (atc τ q)) (hK2 : ∀ q L τ, Fr 83 86 σ τ → plS t 17 0 [] = (q, some L) → PLC τ 83 L → LOK L → K (some (.int (iI 1))) (atc τ q)) : Call l D cA ad (d + 5) mX7_readFrom [.ref 83, .ref 1] σ K := by
  refine call_go (by decide) (Nat.le_of_ble_eq_true rfl) (show Go l D cA ad (d + 5) mX7_readFrom 0 [.ref 83, .ref 1, .null] [] σ K from ?_)
  refine go_aload_n dX7_readFrom_0 rfl ?_
  refine go_iconst (v := iI 0) dX7_readFrom_1 (by decide) ?_
  refine go_putI fX7_31 rfl dX7_readFrom_2 rfl rfl rfl ?_
  rw [show sI σ 1 (upd (σ.1 1) 2 (iI 0)) = atc σ 0 from rfl]
  refine go_aload_n dX7_readFrom_5 rfl ?_
  refine go_iconst (v := iI 0) dX7_readFrom_6 (by decide) ?_
  refine go_putI fX7_27 rfl dX7_readFrom_7 rfl rfl rfl ?_
  rw [atc_fd (by decide)]
  refine go_iconst (v := iI 0) dX7_readFrom_10 (by decide) ?_
  refine go_istore_n dX7_readFrom_11 (Nat.le_of_ble_eq_true rfl) rfl ?_
  simp only [List.set]
  exact it_X7_readFrom ht hK1 hK2 17 0 [] _ rfl (by decide) (by omega) hR (TC_sI hT (by decide) (by decide)) (Fr.rf.sI (by decide) (by decide)) ⟨by rw [sI_same, upd_same]; rfl, fun i x h => by simp at h⟩ ⟨by decide, fun x h => by cases h⟩ rfl

theorem ct_X12_readStep {l : Launch} {D : va_G} {cA ad : Nat → Nat} {d : Nat} {τ : AS} {K : Option Value → AS → Prop} {t : List Nat} {tx b a r : Nat} (ht : TOK t) (hR : RO τ) (hX : TX τ tx b t) (ha : a ≤ t.length) (hr : r + 3 ≤ 240) (hK1 : ∀ q r1, (∀ i, i < r ∨ r + 3 ≤ i → r1 i = τ.1 122 i) → stepS t a = (q, none) → K none (msa (sI τ 122 r1) q q)) (hK2 : ∀ q x r1, (∀ i, i < r ∨ r + 3 ≤ i → r1 i = τ.1 122 i) → stepS t a = (q, some x) → r1 r = iI x.1 → r1 (r + 1) = iI x.2.1 → r1 (r + 2) = iI x.2.2 → K none (msa (sI τ 122 r1) q (-1))) : Call l D cA ad (d + 5) mX12_readStep [.ref 111, .int (iI r)] (msa τ a (-1)) K := by
  have ht1 := ht.1
  have hch := ch_lt ht (sk t a)
  have hsk := sk_le ha
  refine call_go (by decide) (Nat.le_of_ble_eq_true rfl) (show Go l D cA ad (d + 5) mX12_readStep 0 [.ref 111, .int (iI r), .null] [] (msa τ a (-1)) K from ?_)
  refine go_ldcSW (i := 11) (by decide) rfl dX12_readStep_0 ?_
  refine go_aload_n dX12_readStep_3 rfl ?_
  refine go_callV (as := []) wX12_138 dX12_readStep_4 rfl rfl rfl rfl (Nat.le_of_ble_eq_true rfl) (ct_X12_look ht hX ha ?_)
  refine go_callS (as := [_, _]) wX12_225 dX12_readStep_7 rfl rfl (Nat.le_of_ble_eq_true rfl) (ct_X12_spotOf (i := 11) (by decide) hch (fun k hk hsc => ?_) (fun hno => ?_))
  · have hsp : spG 5 (ch t (sk t a)) = some k := by rw [← spG_511]; exact spG_some (by decide) hk hsc
    have hk4 : k < 4 := by rw [sG_511.2.1] at hk; exact hk
    have hc1 : ch t (sk t a) ≠ -1 := by have := (sc_ok 11 (by decide)).2 k hk; omega
    refine go_istore_n dX12_readStep_10 (Nat.le_of_ble_eq_true rfl) rfl ?_
    refine go_iload_n dX12_readStep_11 rfl ?_
    refine go_iconst (v := iI (-1)) dX12_readStep_12 (by decide) ?_
    refine go_icmp_ne (tgt := 22) dX12_readStep_13 (by decide) (fun h13 => ?_) (fun h13 => ?_)
    · refine go_aload_n dX12_readStep_22 rfl ?_
      refine go_dup dX12_readStep_23 rfl ?_
      refine go_getI fX12_119 dX12_readStep_24 rfl ?_
      refine go_iconst (v := iI 1) dX12_readStep_27 (by decide) ?_
      refine go_iadd dX12_readStep_28 ?_
      refine go_putI fX12_119 rfl dX12_readStep_29 rfl rfl rfl ?_
      rw [msa_inc]
      have hp1 := sk_lt_of (t := t) (a := a) (c := ch t (sk t a)) rfl hc1
      refine go_aload_n dX12_readStep_32 rfl ?_
      refine go_getR fX12_55 dX12_readStep_33 rfl (hR _ _ _ rfl) ?_
      refine go_iload_n dX12_readStep_36 rfl ?_
      refine go_iload_n dX12_readStep_37 rfl ?_
      refine go_iast dX12_readStep_38 rfl (by exact vp_iI (by omega)) ?_
      rw [cl_nn r (by omega), show sI (msa τ (sk t a + 1) (-1)) 122 (upd ((msa τ (sk t a + 1) (-1)).1 122) r (iI k)) = msa (sI τ 122 (upd (τ.1 122) r (iI k))) (sk t a + 1) (-1) by have := msa_row (σ := τ) (k := 122) (q := sk t a + 1) (j := r) (f := -1) (r := τ.1 122) (v := iI k) (by decide); rw [sI_self] at this; exact this]
      refine go_aload_n dX12_readStep_39 rfl ?_
      refine go_getR fX12_55 dX12_readStep_40 rfl (hR _ _ _ rfl) ?_
      refine go_iload_n dX12_readStep_43 rfl ?_
      refine go_iconst (v := iI 1) dX12_readStep_44 (by decide) ?_
      refine go_iadd dX12_readStep_45 ?_
      refine go_aload_n dX12_readStep_46 rfl ?_
      refine go_callV (as := []) wX12_269 dX12_readStep_47 rfl rfl rfl rfl (Nat.le_of_ble_eq_true rfl) (ct_X12_digit ht (TX_sI hX (by decide) (by decide) (by decide)) hp1 (fun d1 => ?_) (fun d1 => ?_))
      · have hs1 := sk_le hp1
        refine go_iast dX12_readStep_50 rfl (by rw [iI_add]; exact vp_iI (by omega)) ?_
        rw [iI_add, show ((r : Int) + 1) = ((r + 1 : Nat) : Int) by omega, cl_nn (r + 1) (by omega), msa_row (by decide)]
        refine go_aload_n dX12_readStep_51 rfl ?_
        refine go_getR fX12_55 dX12_readStep_52 rfl (hR _ _ _ rfl) ?_
        refine go_iload_n dX12_readStep_55 rfl ?_
        refine go_iconst (v := iI 2) dX12_readStep_56 (by decide) ?_
        refine go_iadd dX12_readStep_57 ?_
        refine go_iconst (v := iI (-1)) dX12_readStep_58 (by decide) ?_
        refine go_iast dX12_readStep_59 rfl (by rw [iI_add]; exact vp_iI (by omega)) ?_
        rw [iI_add, show ((r : Int) + 2) = ((r + 2 : Nat) : Int) by omega, cl_nn (r + 2) (by omega), msa_row (by decide)]
        refine go_aload_n dX12_readStep_60 rfl ?_
        refine go_getI fX12_128 dX12_readStep_61 rfl ?_
        refine go_iconst (v := iI (-1)) dX12_readStep_64 (by decide) ?_
        refine go_icmp_ne (tgt := 85) dX12_readStep_65 (by decide) (fun h65 => ?_) (fun h65 => ?_)
        · skip
          refine go_vret rfl dX12_readStep_85 ?_
          exact hK1 _ _ (fun i hi => by rw [upd_ne _ _ _ _ (by omega), upd_ne _ _ _ _ (by omega), upd_ne _ _ _ _ (by omega)]) (stepS_1 hsp d1)
        · exfalso
          rw [msa_ft, iI_eq (by omega)] at h65
          omega
      · have l1 := isD_lt d1
        have u1 := d1
        unfold isD at u1
        refine go_iast dX12_readStep_50 rfl (by rw [iI_add]; exact vp_iI (by omega)) ?_
        rw [iI_add, show ((r : Int) + 1) = ((r + 1 : Nat) : Int) by omega, cl_nn (r + 1) (by omega), msa_row (by decide)]
        refine go_aload_n dX12_readStep_51 rfl ?_
        refine go_getR fX12_55 dX12_readStep_52 rfl (hR _ _ _ rfl) ?_
        refine go_iload_n dX12_readStep_55 rfl ?_
        refine go_iconst (v := iI 2) dX12_readStep_56 (by decide) ?_
        refine go_iadd dX12_readStep_57 ?_
        refine go_iconst (v := iI (-1)) dX12_readStep_58 (by decide) ?_
        refine go_iast dX12_readStep_59 rfl (by rw [iI_add]; exact vp_iI (by omega)) ?_
        rw [iI_add, show ((r : Int) + 2) = ((r + 2 : Nat) : Int) by omega, cl_nn (r + 2) (by omega), msa_row (by decide)]
        refine go_aload_n dX12_readStep_60 rfl ?_
        refine go_getI fX12_128 dX12_readStep_61 rfl ?_
        refine go_iconst (v := iI (-1)) dX12_readStep_64 (by decide) ?_
        refine go_icmp_ne (tgt := 85) dX12_readStep_65 (by decide) (fun h65 => ?_) (fun h65 => ?_)
        · exfalso
          rw [msa_ft] at h65
          exact h65 rfl
        · refine go_iload_n dX12_readStep_68 rfl ?_
          refine go_iconst (v := iI 3) dX12_readStep_69 (by decide) ?_
          refine go_icmp_ne (tgt := 85) dX12_readStep_70 (by decide) (fun h70 => ?_) (fun h70 => ?_)
          · rw [iI_eq (by omega)] at h70
            skip
            refine go_vret rfl dX12_readStep_85 ?_
            refine hK2 _ _ _ (fun i hi => by rw [upd_ne _ _ _ _ (by omega), upd_ne _ _ _ _ (by omega), upd_ne _ _ _ _ (by omega)]) (stepS_2 hsp d1 (by omega)) ?_ ?_ ?_
            · rw [upd_ne _ _ _ _ (by omega), upd_ne _ _ _ _ (by omega), upd_same]
            · rw [upd_ne _ _ _ _ (by omega), upd_same]
            · rw [upd_same]
          · rw [iI_eq (by omega)] at h70
            have hk3 : k = 3 := by omega
            subst hk3
            refine go_aload_n dX12_readStep_73 rfl ?_
            refine go_getR fX12_55 dX12_readStep_74 rfl (hR _ _ _ rfl) ?_
            refine go_iload_n dX12_readStep_77 rfl ?_
            refine go_iconst (v := iI 2) dX12_readStep_78 (by decide) ?_
            refine go_iadd dX12_readStep_79 ?_
            refine go_aload_n dX12_readStep_80 rfl ?_
            refine go_callV (as := []) wX12_269 dX12_readStep_81 rfl rfl rfl rfl (Nat.le_of_ble_eq_true rfl) (ct_X12_digit ht (TX_sI hX (by decide) (by decide) (by decide)) l1 (fun d2 => ?_) (fun d2 => ?_))
            · refine go_iast dX12_readStep_84 rfl (by rw [iI_add]; exact vp_iI (by omega)) ?_
              skip
              refine go_vret rfl dX12_readStep_85 ?_
              rw [iI_add, show ((r : Int) + 2) = ((r + 2 : Nat) : Int) by omega, cl_nn (r + 2) (by omega), msa_row (by decide)]
              exact hK1 _ _ (fun i hi => by rw [upd_ne _ _ _ _ (by omega), upd_ne _ _ _ _ (by omega), upd_ne _ _ _ _ (by omega), upd_ne _ _ _ _ (by omega)]) (stepS_3 hsp d1 d2)
            · have l2 := isD_lt d2
              have u2 := d2
              unfold isD at u2
              refine go_iast dX12_readStep_84 rfl (by rw [iI_add]; exact vp_iI (by omega)) ?_
              skip
              refine go_vret rfl dX12_readStep_85 ?_
              rw [iI_add, show ((r : Int) + 2) = ((r + 2 : Nat) : Int) by omega, cl_nn (r + 2) (by omega), msa_row (by decide)]
              refine hK2 _ _ _ (fun i hi => by rw [upd_ne _ _ _ _ (by omega), upd_ne _ _ _ _ (by omega), upd_ne _ _ _ _ (by omega), upd_ne _ _ _ _ (by omega)]) (stepS_4 hsp d1 d2) ?_ ?_ ?_
              · rw [upd_ne _ _ _ _ (by omega), upd_ne _ _ _ _ (by omega), upd_ne _ _ _ _ (by omega), upd_same]; rfl
              · rw [upd_ne _ _ _ _ (by omega), upd_ne _ _ _ _ (by omega), upd_same]
              · rw [upd_same]
    · exfalso
      rw [iI_eq (by omega)] at h13
      omega
  · have hsp : spG 5 (ch t (sk t a)) = none := by rw [← spG_511]; exact spG_none hno
    refine go_istore_n dX12_readStep_10 (Nat.le_of_ble_eq_true rfl) rfl ?_
    refine go_iload_n dX12_readStep_11 rfl ?_
    refine go_iconst (v := iI (-1)) dX12_readStep_12 (by decide) ?_
    refine go_icmp_ne (tgt := 22) dX12_readStep_13 (by decide) (fun h13 => ?_) (fun h13 => ?_)
    · exact absurd h13 (by decide)
    · refine go_aload_n dX12_readStep_16 rfl ?_
      refine go_callV (as := []) wX12_134 dX12_readStep_17 rfl rfl rfl rfl (Nat.le_of_ble_eq_true rfl) (ct_X12_fails ?_)
      refine go_pop dX12_readStep_20 rfl ?_
      refine go_vret rfl dX12_readStep_21 ?_
      have := hK1 _ (τ.1 122) (fun i hi => rfl) (stepS_0 hsp)
      rw [sI_self] at this
      exact this
