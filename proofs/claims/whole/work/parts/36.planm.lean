def FrP (σ τ : AS) : Prop := τ.2 = σ.2 ∧ (∀ k, k ≠ 122 → k ≠ 123 → τ.1 k = σ.1 k) ∧ (∀ i, i < 192 → τ.1 122 i = σ.1 122 i) ∧ ∀ i, i ≠ 4 → τ.1 123 i = σ.1 123 i
theorem FrP.rf {σ : AS} : FrP σ σ := ⟨rfl, fun _ _ _ => rfl, fun _ _ => rfl, fun _ _ => rfl⟩
theorem FrP.RO {σ τ : AS} (h : FrP σ τ) (hR : RO σ) : RO τ := by
  intro k j a e
  have := hR k j a e
  rw [show τ.2.2 = σ.2.2 by rw [h.1]]
  exact this
theorem FrP.TX {σ τ : AS} {tx b : Nat} {t : List Nat} (h : FrP σ τ) (hX : TX σ tx b t) : TX τ tx b t := by
  obtain ⟨a1, a2, a3, a4, a5⟩ := hX
  refine ⟨by rw [show τ.2.2 = σ.2.2 by rw [h.1]]; exact a1, a2, by rw [h.2.1 111 (by decide) (by decide)]; exact a3, by rw [h.2.1 111 (by decide) (by decide)]; exact a4, fun i c hc => ?_⟩
  rw [h.2.1 tx (by rcases a2 with ⟨e, -⟩ | ⟨e, -⟩ <;> omega) (by rcases a2 with ⟨e, -⟩ | ⟨e, -⟩ <;> omega)]
  exact a5 i c hc
theorem FrP.s122 {σ τ : AS} {r : Nat → Int32} {b : Nat} (h : FrP σ τ) (hb : 192 ≤ b) (hr : ∀ i, i < b ∨ b + 3 ≤ i → r i = τ.1 122 i) : FrP σ (sI τ 122 r) := ⟨h.1, fun k a c => by rw [sI_ne _ _ _ _ a]; exact h.2.1 k a c, fun i hi => by rw [sI_same, hr i (by omega)]; exact h.2.2.1 i hi, fun i hi => by rw [sI_ne _ _ _ _ (by decide)]; exact h.2.2.2 i hi⟩
theorem FrP.s123 {σ τ : AS} {v : Int32} (h : FrP σ τ) : FrP σ (sI τ 123 (upd (τ.1 123) 4 v)) := ⟨h.1, fun k a c => by rw [sI_ne _ _ _ _ c]; exact h.2.1 k a c, fun i hi => by rw [sI_ne _ _ _ _ (by decide)]; exact h.2.2.1 i hi, fun i hi => by rw [sI_same, upd_ne _ _ _ _ hi]; exact h.2.2.2 i hi⟩
theorem PLM_push {τ : AS} {p : Nat} {L : List ST} {x : ST} {r : Nat → Int32} (h : PLM τ p L) (hr : ∀ i, i < 3 * (16 * p + L.length) ∨ 3 * (16 * p + L.length) + 3 ≤ i → r i = τ.1 122 i) (h1 : r (3 * (16 * p + L.length)) = iI x.1) (h2 : r (3 * (16 * p + L.length) + 1) = iI x.2.1) (h3 : r (3 * (16 * p + L.length) + 2) = iI x.2.2) : PLM (sI τ 122 r) p (L ++ [x]) := by
  intro i y hy
  rw [sI_same]
  by_cases hi : i < L.length
  · rw [List.getElem?_append_left hi] at hy
    rw [hr _ (by omega), hr _ (by omega), hr _ (by omega)]
    exact h i y hy
  · rw [List.getElem?_append_right (by omega)] at hy
    have e : i = L.length := by have := (List.getElem?_eq_some_iff.mp hy).1; simp at this; omega
    subst e
    simp at hy
    subst hy
    exact ⟨h1, h2, h3⟩
theorem it_X12_readPlan {l : Launch} {D : va_G} {cA ad : Nat → Nat} {d : Nat} {σ : AS} {K : Option Value → AS → Prop} {t : List Nat} (ht : TOK t) (hR1 : RO (stT σ 112 0 t.length)) (hK1 : ∀ q τ, FrP (stT σ 112 0 t.length) τ → plS t 17 0 [] = (q, none) → K none (msa τ q q)) (hK2 : ∀ q L τ, FrP (stT σ 112 0 t.length) τ → plS t 17 0 [] = (q, some L) → PLM τ 4 L → τ.1 123 4 = iI L.length → LOK L → K none (msa τ q (-1))) : ∀ (n a : Nat) (L : List ST) (τ : AS), n + L.length = 17 → L.length < 16 → a ≤ t.length → RO τ → TX τ 112 0 t → FrP (stT σ 112 0 t.length) τ → PLM τ 4 L → LOK L → plS t 17 0 [] = plS t n a L → Go l D cA ad (d + 6) mX12_readPlan 17 [.ref 111, .int (iI L.length), .int (iI 1)] [] (msa τ a (-1)) K := by
  have ht1 := ht.1
  intro n
  induction n with
  | zero => intro a L τ h; omega
  | succ n ih =>
  intro a L τ hn hk16 ha hR hX hfr hp hL hres
  refine go_iload_n dX12_readPlan_17 rfl ?_
  refine go_if_eq (tgt := 91) dX12_readPlan_18 (by decide) (fun h18 => ?_) (fun h18 => ?_)
  · exact absurd h18 (by decide)
  · refine go_aload_n dX12_readPlan_21 rfl ?_
    refine go_iconst (v := iI 3) dX12_readPlan_22 (by decide) ?_
    refine go_bipush (v := iI 64) dX12_readPlan_23 (by decide) ?_
    refine go_iload_n dX12_readPlan_25 rfl ?_
    refine go_iadd dX12_readPlan_26 ?_
    refine go_imul dX12_readPlan_27 ?_
    have e0 : iI 3 * (iI 64 + iI (L.length : Int)) = iI ((3 * (16 * 4 + L.length) : Nat) : Int) := by rw [iI_add, iI_mul]; congr 1
    rw [e0]
    refine go_callV (as := [_]) wX12_272 dX12_readPlan_28 rfl rfl rfl rfl (Nat.le_of_ble_eq_true rfl) (ct_X12_readStep (r := 3 * (16 * 4 + L.length)) ht hR hX ha (by omega) (fun q r1 hr1 hq => ?_) (fun q x r1 hr1 hq e1 e2 e3 => ?_))
    · have hq9 : q ≤ 1000 := by
        have := stepS_le ha
        rw [hq] at this
        dsimp only at this
        omega
      refine go_aload_n dX12_readPlan_31 rfl ?_
      refine go_getI fX12_128 dX12_readPlan_32 rfl ?_
      refine go_iconst (v := iI (-1)) dX12_readPlan_35 (by decide) ?_
      refine go_icmp_eq (tgt := 40) dX12_readPlan_36 (by decide) (fun h36 => ?_) (fun h36 => ?_)
      · exfalso
        rw [msa_ft, iI_eq (by omega)] at h36
        omega
      · refine go_vret rfl dX12_readPlan_39 ?_
        exact hK1 _ _ (hfr.s122 (by omega) hr1) (hres.trans (plS_f hq))
    · have hle : q ≤ t.length := by
        have := stepS_le ha
        rw [hq] at this
        exact this
      have hskq := sk_le hle
      have hchq := ch_lt ht (sk t q)
      have hx := stepS_ok hq
      have hfr' := hfr.s122 (by omega) hr1
      have hX' := TX_sI (r := r1) hX (show 122 ≠ 111 by decide) (by decide) (by decide)
      have hp2 := PLM_push hp hr1 e1 e2 e3
      refine go_aload_n dX12_readPlan_31 rfl ?_
      refine go_getI fX12_128 dX12_readPlan_32 rfl ?_
      refine go_iconst (v := iI (-1)) dX12_readPlan_35 (by decide) ?_
      refine go_icmp_eq (tgt := 40) dX12_readPlan_36 (by decide) (fun h36 => ?_) (fun h36 => ?_)
      · refine go_iincI dX12_readPlan_40 rfl (Nat.le_of_ble_eq_true rfl) rfl ?_
        refine go_aload_n dX12_readPlan_43 rfl ?_
        refine go_callV (as := []) wX12_138 dX12_readPlan_44 rfl rfl rfl rfl (Nat.le_of_ble_eq_true rfl) (ct_X12_look ht hX' hle ?_)
        refine go_bipush (v := iI 59) dX12_readPlan_47 (by decide) ?_
        refine go_icmp_ne (tgt := 56) dX12_readPlan_49 (by decide) (fun h49 => ?_) (fun h49 => ?_)
        · rw [iI_eq (by omega)] at h49
          refine go_iconst (v := iI 0) dX12_readPlan_56 (by decide) ?_
          refine go_istore_n dX12_readPlan_57 (Nat.le_of_ble_eq_true rfl) rfl ?_
          refine go_iload_n dX12_readPlan_58 rfl ?_
          refine go_if_eq (tgt := 74) dX12_readPlan_59 (by decide) (fun h59 => ?_) (fun h59 => ?_)
          · refine go_iload_n dX12_readPlan_74 rfl ?_
            refine go_if_eq (tgt := 17) dX12_readPlan_75 (by decide) (fun h75 => ?_) (fun h75 => ?_)
            · simp only [List.set]
              have hl : iI (L.length : Int) + iI 1 = iI (((L ++ [x]).length : Nat) : Int) := by rw [iI_add, List.length_append]; rfl
              rw [hl]
              refine go_iload_n dX12_readPlan_17 rfl ?_
              refine go_if_eq (tgt := 91) dX12_readPlan_18 (by decide) (fun g18 => ?_) (fun g18 => ?_)
              · refine go_aload_n dX12_readPlan_91 rfl ?_
                refine go_getR fX12_58 dX12_readPlan_92 rfl (hR _ _ _ rfl) ?_
                refine go_iconst (v := iI 4) dX12_readPlan_95 (by decide) ?_
                refine go_iload_n dX12_readPlan_96 rfl ?_
                refine go_iast dX12_readPlan_97 rfl (by exact vp_iI (by omega)) ?_
                rw [show sI (msa (sI τ 122 r1) (sk t q) (-1)) 123 (upd ((msa (sI τ 122 r1) (sk t q) (-1)).1 123) (iI 4).toNatClampNeg (iI (((L ++ [x]).length : Nat) : Int))) = msa (sI (sI τ 122 r1) 123 (upd ((sI τ 122 r1).1 123) 4 (iI (((L ++ [x]).length : Nat) : Int)))) (sk t q) (-1) by have := msa_row (σ := sI τ 122 r1) (k := 123) (q := sk t q) (j := 4) (f := -1) (r := (sI τ 122 r1).1 123) (v := iI (((L ++ [x]).length : Nat) : Int)) (by decide); rw [sI_self] at this; rw [show (iI 4).toNatClampNeg = 4 by decide]; exact this]
                refine go_aload_n dX12_readPlan_98 rfl ?_
                refine go_callV (as := []) wX12_138 dX12_readPlan_99 rfl rfl rfl rfl (Nat.le_of_ble_eq_true rfl) (ct_X12_look ht (TX_sI hX' (by decide) (by decide) (by decide)) hskq ?_)
                rw [sk_sk]
                refine go_iconst (v := iI (-1)) dX12_readPlan_102 (by decide) ?_
                refine go_icmp_eq (tgt := 111) dX12_readPlan_103 (by decide) (fun h103 => ?_) (fun h103 => ?_)
                · rw [iI_eq (by omega)] at h103
                  refine go_vret rfl dX12_readPlan_111 ?_
                  refine hK2 _ _ _ hfr'.s123 (hres.trans (plS_e hq h103)) ?_ (by rw [sI_same, upd_same]) (LOK_push hL hk16 hx.1)
                  intro i y hy
                  rw [sI_ne _ _ _ _ (by decide)]
                  exact hp2 i y hy
                · rw [iI_eq (by omega)] at h103
                  refine go_aload_n dX12_readPlan_106 rfl ?_
                  refine go_callV (as := []) wX12_134 dX12_readPlan_107 rfl rfl rfl rfl (Nat.le_of_ble_eq_true rfl) (ct_X12_fails ?_)
                  refine go_pop dX12_readPlan_110 rfl ?_
                  refine go_vret rfl dX12_readPlan_111 ?_
                  exact hK1 _ _ hfr'.s123 (hres.trans (plS_x hq h103 (by omega)))
              · exact absurd g18 (by decide)
            · exact absurd h75 (by decide)
          · exact absurd h59 (by decide)
        · rw [iI_eq (by omega)] at h49
          refine go_iconst (v := iI 1) dX12_readPlan_52 (by decide) ?_
          refine go_goto (tgt := 57) dX12_readPlan_53 (by decide) ?_
          refine go_istore_n dX12_readPlan_57 (Nat.le_of_ble_eq_true rfl) rfl ?_
          refine go_iload_n dX12_readPlan_58 rfl ?_
          refine go_if_eq (tgt := 74) dX12_readPlan_59 (by decide) (fun h59 => ?_) (fun h59 => ?_)
          · exact absurd h59 (by decide)
          · refine go_iload_n dX12_readPlan_62 rfl ?_
            refine go_bipush (v := iI 16) dX12_readPlan_63 (by decide) ?_
            refine go_icmp_ne (tgt := 74) dX12_readPlan_65 (by decide) (fun h65 => ?_) (fun h65 => ?_)
            · rw [iI_add, iI_eq (by omega)] at h65
              refine go_iload_n dX12_readPlan_74 rfl ?_
              refine go_if_eq (tgt := 17) dX12_readPlan_75 (by decide) (fun h75 => ?_) (fun h75 => ?_)
              · exact absurd h75 (by decide)
              · refine go_aload_n dX12_readPlan_78 rfl ?_
                refine go_dup dX12_readPlan_79 rfl ?_
                refine go_getI fX12_119 dX12_readPlan_80 rfl ?_
                refine go_iconst (v := iI 1) dX12_readPlan_83 (by decide) ?_
                refine go_iadd dX12_readPlan_84 ?_
                refine go_putI fX12_119 rfl dX12_readPlan_85 rfl rfl rfl ?_
                refine go_goto (tgt := 17) dX12_readPlan_88 (by decide) ?_
                rw [msa_inc]
                simp only [List.set]
                have hl : iI (L.length : Int) + iI 1 = iI (((L ++ [x]).length : Nat) : Int) := by rw [iI_add, List.length_append]; rfl
                rw [hl]
                exact ih (sk t q + 1) (L ++ [x]) _ (by rw [List.length_append]; show n + (L.length + 1) = 17; omega) (by rw [List.length_append]; show L.length + 1 < 16; omega) (lt_of_ch h49 (by decide)) (hfr'.RO hR1) hX' hfr' hp2 (LOK_push hL hk16 hx.1) (hres.trans (plS_n hq h49 (by omega)))
            · rw [iI_add, iI_eq (by omega)] at h65
              refine go_aload_n dX12_readPlan_68 rfl ?_
              refine go_callV (as := []) wX12_134 dX12_readPlan_69 rfl rfl rfl rfl (Nat.le_of_ble_eq_true rfl) (ct_X12_fails ?_)
              refine go_pop dX12_readPlan_72 rfl ?_
              refine go_vret rfl dX12_readPlan_73 ?_
              exact hK1 _ _ hfr' (hres.trans (plS_x hq (by omega) (by omega)))
      · rw [msa_ft] at h36
        exact absurd rfl h36
theorem ct_X12_readPlan {l : Launch} {D : va_G} {cA ad : Nat → Nat} {d : Nat} {σ : AS} {K : Option Value → AS → Prop} {t : List Nat} (ht : TOK t) (hR : RO σ) (hT : TM σ t) (hK1 : ∀ q τ, FrP (stT σ 112 0 t.length) τ → plS t 17 0 [] = (q, none) → K none (msa τ q q)) (hK2 : ∀ q L τ, FrP (stT σ 112 0 t.length) τ → plS t 17 0 [] = (q, some L) → PLM τ 4 L → τ.1 123 4 = iI L.length → LOK L → K none (msa τ q (-1))) : Call l D cA ad (d + 6) mX12_readPlan [.ref 111] σ K := by
  have ht1 := ht.1
  refine call_go (by decide) (Nat.le_of_ble_eq_true rfl) (show Go l D cA ad (d + 6) mX12_readPlan 0 [.ref 111, .null, .null] [] σ K from ?_)
  refine go_aload_n dX12_readPlan_0 rfl ?_
  refine go_aload_n dX12_readPlan_1 rfl ?_
  refine go_getR fX12_9 dX12_readPlan_2 rfl (hR _ _ _ rfl) ?_
  refine go_iconst (v := iI 0) dX12_readPlan_5 (by decide) ?_
  refine go_aload_n dX12_readPlan_6 rfl ?_
  refine go_getI fX12_109 dX12_readPlan_7 rfl ?_
  rw [hT.1]
  refine go_callV (as := [_, _, _]) wX12_207 dX12_readPlan_10 rfl rfl rfl rfl (Nat.le_of_ble_eq_true rfl) (ct_X12_starts (b := 0) (n := t.length) ?_)
  refine go_iconst (v := iI 0) dX12_readPlan_13 (by decide) ?_
  refine go_istore_n dX12_readPlan_14 (Nat.le_of_ble_eq_true rfl) rfl ?_
  refine go_iconst (v := iI 1) dX12_readPlan_15 (by decide) ?_
  refine go_istore_n dX12_readPlan_16 (Nat.le_of_ble_eq_true rfl) rfl ?_
  simp only [List.set]
  exact it_X12_readPlan ht (RO_stT hR) hK1 hK2 17 0 [] _ rfl (by decide) (by omega) (RO_stT hR) (stT_TX hT ht1) FrP.rf (fun i x h => by simp at h) ⟨by decide, fun x h => by cases h⟩ rfl

