theorem ct_X12_stock {l : Launch} {D : va_G} {cA ad : Nat → Nat} {d : Nat} {σ : AS} {K : Option Value → AS → Prop} {X : XS} {a n : Int} (hR : RO σ) (hK0 : XK X) (hC : MI σ X) (ha32 : -2147483648 ≤ a ∧ a < 2147483648) (hn32 : -2147483648 ≤ n ∧ n < 2147483648) (hK : ∀ τ, FD σ τ → MI τ (stockX X a n) → K (some (.int (iI (stockA X a n)))) τ) : Call l D cA ad (d + 2) mX12_stock [.ref 111, .int (iI a), .int (iI n)] σ K := by
  have hP7 := hK0.s.1
  have hQ9 := hK0.s.2.1
  refine call_go (by decide) (Nat.le_of_ble_eq_true rfl) (show Go l D cA ad (d + 2) mX12_stock 0 [.ref 111, .int (iI a), .int (iI n), .null, .null] [] σ K from ?_)
  refine go_aload_n dX12_stock_0 rfl ?_
  refine go_iconst (v := iI 0) dX12_stock_1 (by decide) ?_
  refine go_putI fX12_96 rfl dX12_stock_2 rfl rfl rfl ?_
  have hq : DF (xL X) σ (sI σ 111 (upd (σ.1 111) 0 (iI 0))) := DF_f0 DF.rf
  have hR0 := hq.RO hR
  have hC0 := hC.q hK0 hq
  generalize sI σ 111 (upd (σ.1 111) 0 (iI 0)) = τ at hq hR0 hC0 ⊢
  refine go_aload_n dX12_stock_5 rfl ?_
  refine go_iload_n dX12_stock_6 rfl ?_
  refine go_callV (as := [_]) wX12_364 dX12_stock_7 rfl rfl rfl rfl (Nat.le_of_ble_eq_true rfl) (ct_isPond2 ha32 hC0.2.1 hK0.s (fun k hke hkl => ?_) (fun hkx => ?_))
  · refine go_if_eq (tgt := 25) dX12_stock_10 (by decide) (fun h10 => ?_) (fun h10 => ?_)
    · exact absurd h10 (by decide)
    · refine go_iload_n dX12_stock_13 rfl ?_
      refine go_i2l dX12_stock_14 ?_
      rw [i2l_iI (by omega)]
      refine go_lconst (v := 0) dX12_stock_15 (by decide) ?_
      refine go_ldc2 lX12_367 dX12_stock_16 ?_
      refine go_callS (as := [_, _, _]) wX12_217 dX12_stock_19 rfl rfl (Nat.le_of_ble_eq_true rfl) (ct_isIn2 (x := 0) (y := 9) (by decide) (by decide) (by omega) (fun hi => ?_) (fun hi => ?_))
      · refine go_if_ne (tgt := 27) dX12_stock_22 (by decide) (fun h22 => ?_) (fun h22 => ?_)
        · subst hke
          have h7 := wk7 hK0.s hK0.w k
          by_cases hz : n = 0
          · refine go_iconst (v := iI 3) dX12_stock_27 (by decide) ?_
            refine go_iload_n dX12_stock_28 rfl ?_
            refine go_imul dX12_stock_29 ?_
            rw [iI_mul]
            refine go_iload_n dX12_stock_30 rfl ?_
            refine go_if_ne (tgt := 38) dX12_stock_31 (by decide) (fun h31 => ?_) (fun h31 => ?_)
            · exact absurd (by rw [hz]; rfl) h31
            · refine go_iconst (v := iI 2) dX12_stock_34 (by decide) ?_
              refine go_goto (tgt := 39) dX12_stock_35 (by decide) ?_
              refine go_iadd dX12_stock_39 ?_
              rw [iI_add, show 3 * (k : Int) + 2 = ((3 * k + 2 : Nat) : Int) by omega]
              refine go_istore_n dX12_stock_40 (Nat.le_of_ble_eq_true rfl) rfl ?_
              refine go_iload_n dX12_stock_41 rfl ?_
              refine go_if_ne (tgt := 49) dX12_stock_42 (by decide) (fun h42 => ?_) (fun h42 => ?_)
              · exact absurd (by rw [hz]; rfl) h42
              · refine go_iconst (v := iI 1) dX12_stock_45 (by decide) ?_
                refine go_goto (tgt := 50) dX12_stock_46 (by decide) ?_
                refine go_istore dX12_stock_50 (Nat.le_of_ble_eq_true rfl) rfl ?_
                refine go_aload_n dX12_stock_52 rfl ?_
                refine go_getR fX12_61 dX12_stock_53 rfl (hR0 _ _ _ rfl) ?_
                refine go_iload_n dX12_stock_56 rfl ?_
                refine go_iald dX12_stock_57 rfl (vp_iI (by omega)) ?_
                rw [cl_n _ (by omega), (hC0.2.2.1.1.1 k (by omega)).2.2]
                refine go_iload dX12_stock_58 rfl ?_
                refine go_iadd dX12_stock_60 ?_
                rw [iI_add]
                refine go_iload_n dX12_stock_61 rfl ?_
                refine go_if_ne (tgt := 70) dX12_stock_62 (by decide) (fun h62 => ?_) (fun h62 => ?_)
                · exact absurd (by rw [hz]; rfl) h62
                · refine go_bipush (v := iI 9) dX12_stock_65 (by decide) ?_
                  refine go_goto (tgt := 72) dX12_stock_67 (by decide) ?_
                  refine go_icmp_le (tgt := 77) dX12_stock_72 (by decide) (fun h72 => ?_) (fun h72 => ?_)
                  · rw [iI_le (by omega)] at h72
                    refine go_aload_n dX12_stock_77 rfl ?_
                    refine go_callV (as := []) wX12_381 dX12_stock_78 rfl rfl rfl rfl (Nat.le_of_ble_eq_true rfl) (ct_X12_remember hR0 hK0 hC0 (fun ρ fd ef hC1 => ?_))
                    refine go_aload_n dX12_stock_81 rfl ?_
                    refine go_getR fX12_61 dX12_stock_82 rfl (fd.RO hR0 _ _ _ rfl) ?_
                    refine go_iload_n dX12_stock_85 rfl ?_
                    refine go_dup2 dX12_stock_86 rfl rfl ?_
                    refine go_iald dX12_stock_87 rfl (vp_iI (by omega)) ?_
                    rw [cl_n _ (by omega)]
                    rw [(hC1.2.2.1.1.1 k (by omega)).2.2]
                    refine go_iload dX12_stock_88 rfl ?_
                    refine go_iadd dX12_stock_90 ?_
                    rw [iI_add]
                    refine go_iast dX12_stock_91 rfl (vp_iI (by omega)) ?_
                    rw [cl_n _ (by omega)]
                    rw [show pk (xw (remX X)) k = pk (xw X) k from rfl]
                    refine go_aload_n dX12_stock_92 rfl ?_
                    refine go_getR fX12_61 dX12_stock_93 rfl (fd.RO hR0 _ _ _ rfl) ?_
                    refine go_iload_n dX12_stock_96 rfl ?_
                    refine go_iald dX12_stock_97 rfl (vp_iI (by omega)) ?_
                    rw [cl_n _ (by omega), sI_same, upd_same]
                    refine go_iret rfl rfl dX12_stock_98 ?_
                    have hcan : canS (xs X) (xw X) k n := ⟨⟨by omega, by omega⟩, ⟨by omega, by omega⟩, fun q => by rw [Int.toNat_natCast]; omega, fun q => by rw [Int.toNat_natCast]; omega⟩
                    have e1 : stockX X k n = setW (remX X) (stkF (xw X) k n) := by unfold stockX; rw [if_pos hcan]; rfl
                    have e2 : stockA X k n = pk (xw X) k + 1 := by unfold stockA; rw [if_pos hcan, if_pos hz]; rfl
                    have e3 : stkF (xw X) k n = (wa (xw X), ca (xw X), setF (pk (xw X)) k (pk (xw X) k + 1), (xw X).2.2.2) := by unfold stkF; rw [if_pos hz]
                    rw [e1, e2] at hK
                    obtain ⟨h1, h2⟩ := MI_set (w := stkF (xw X) k n) hC1 (by rw [e3]; exact WR_p2 (by omega) hC1.2.2.1.1) stkF_dy (fun j hj => upd_ne _ _ _ _ (by omega))
                    exact hK _ ((hq.1.tr fd).tr h2) h1
                  · rw [iI_le (by omega)] at h72
                    refine go_iconst (v := iI (-1)) dX12_stock_75 (by decide) ?_
                    refine go_iret rfl rfl dX12_stock_76 ?_
                    have hcan : ¬ canS (xs X) (xw X) k n := fun q => by have q3 := q.2.2.1; have q4 := q.2.2.2; rw [Int.toNat_natCast] at q3 q4; have q5 := q3 hz; omega
                    have e1 : stockX X k n = X := by unfold stockX; rw [if_neg hcan]
                    have e2 : stockA X k n = -1 := by unfold stockA; rw [if_neg hcan]
                    rw [e1, e2] at hK
                    exact hK τ hq.1 hC0
          · refine go_iconst (v := iI 3) dX12_stock_27 (by decide) ?_
            refine go_iload_n dX12_stock_28 rfl ?_
            refine go_imul dX12_stock_29 ?_
            rw [iI_mul]
            refine go_iload_n dX12_stock_30 rfl ?_
            refine go_if_ne (tgt := 38) dX12_stock_31 (by decide) (fun h31 => ?_) (fun h31 => ?_)
            · refine go_iconst (v := iI 1) dX12_stock_38 (by decide) ?_
              refine go_iadd dX12_stock_39 ?_
              rw [iI_add, show 3 * (k : Int) + 1 = ((3 * k + 1 : Nat) : Int) by omega]
              refine go_istore_n dX12_stock_40 (Nat.le_of_ble_eq_true rfl) rfl ?_
              refine go_iload_n dX12_stock_41 rfl ?_
              refine go_if_ne (tgt := 49) dX12_stock_42 (by decide) (fun h42 => ?_) (fun h42 => ?_)
              · refine go_iload_n dX12_stock_49 rfl ?_
                refine go_istore dX12_stock_50 (Nat.le_of_ble_eq_true rfl) rfl ?_
                refine go_aload_n dX12_stock_52 rfl ?_
                refine go_getR fX12_61 dX12_stock_53 rfl (hR0 _ _ _ rfl) ?_
                refine go_iload_n dX12_stock_56 rfl ?_
                refine go_iald dX12_stock_57 rfl (vp_iI (by omega)) ?_
                rw [cl_n _ (by omega), (hC0.2.2.1.1.1 k (by omega)).2.1]
                refine go_iload dX12_stock_58 rfl ?_
                refine go_iadd dX12_stock_60 ?_
                rw [iI_add]
                refine go_iload_n dX12_stock_61 rfl ?_
                refine go_if_ne (tgt := 70) dX12_stock_62 (by decide) (fun h62 => ?_) (fun h62 => ?_)
                · refine go_bipush (v := iI 99) dX12_stock_70 (by decide) ?_
                  refine go_icmp_le (tgt := 77) dX12_stock_72 (by decide) (fun h72 => ?_) (fun h72 => ?_)
                  · rw [iI_le (by omega)] at h72
                    refine go_aload_n dX12_stock_77 rfl ?_
                    refine go_callV (as := []) wX12_381 dX12_stock_78 rfl rfl rfl rfl (Nat.le_of_ble_eq_true rfl) (ct_X12_remember hR0 hK0 hC0 (fun ρ fd ef hC1 => ?_))
                    refine go_aload_n dX12_stock_81 rfl ?_
                    refine go_getR fX12_61 dX12_stock_82 rfl (fd.RO hR0 _ _ _ rfl) ?_
                    refine go_iload_n dX12_stock_85 rfl ?_
                    refine go_dup2 dX12_stock_86 rfl rfl ?_
                    refine go_iald dX12_stock_87 rfl (vp_iI (by omega)) ?_
                    rw [cl_n _ (by omega)]
                    rw [(hC1.2.2.1.1.1 k (by omega)).2.1]
                    refine go_iload dX12_stock_88 rfl ?_
                    refine go_iadd dX12_stock_90 ?_
                    rw [iI_add]
                    refine go_iast dX12_stock_91 rfl (vp_iI (by omega)) ?_
                    rw [cl_n _ (by omega)]
                    rw [show ca (xw (remX X)) k = ca (xw X) k from rfl]
                    refine go_aload_n dX12_stock_92 rfl ?_
                    refine go_getR fX12_61 dX12_stock_93 rfl (fd.RO hR0 _ _ _ rfl) ?_
                    refine go_iload_n dX12_stock_96 rfl ?_
                    refine go_iald dX12_stock_97 rfl (vp_iI (by omega)) ?_
                    rw [cl_n _ (by omega), sI_same, upd_same]
                    refine go_iret rfl rfl dX12_stock_98 ?_
                    have hcan : canS (xs X) (xw X) k n := ⟨⟨by omega, by omega⟩, ⟨by omega, by omega⟩, fun q => by rw [Int.toNat_natCast]; omega, fun q => by rw [Int.toNat_natCast]; omega⟩
                    have e1 : stockX X k n = setW (remX X) (stkF (xw X) k n) := by unfold stockX; rw [if_pos hcan]; rfl
                    have e2 : stockA X k n = ca (xw X) k + n := by unfold stockA; rw [if_pos hcan, if_neg hz]; rfl
                    have e3 : stkF (xw X) k n = (wa (xw X), setF (ca (xw X)) k (ca (xw X) k + n), pk (xw X), (xw X).2.2.2) := by unfold stkF; rw [if_neg hz]
                    rw [e1, e2] at hK
                    obtain ⟨h1, h2⟩ := MI_set (w := stkF (xw X) k n) hC1 (by rw [e3]; exact WR_p1 (by omega) hC1.2.2.1.1) stkF_dy (fun j hj => upd_ne _ _ _ _ (by omega))
                    exact hK _ ((hq.1.tr fd).tr h2) h1
                  · rw [iI_le (by omega)] at h72
                    refine go_iconst (v := iI (-1)) dX12_stock_75 (by decide) ?_
                    refine go_iret rfl rfl dX12_stock_76 ?_
                    have hcan : ¬ canS (xs X) (xw X) k n := fun q => by have q3 := q.2.2.1; have q4 := q.2.2.2; rw [Int.toNat_natCast] at q3 q4; have q5 := q4 hz; omega
                    have e1 : stockX X k n = X := by unfold stockX; rw [if_neg hcan]
                    have e2 : stockA X k n = -1 := by unfold stockA; rw [if_neg hcan]
                    rw [e1, e2] at hK
                    exact hK τ hq.1 hC0
                · exfalso
                  rw [iI_eq0 (by omega)] at h62
                  exact hz h62
              · exfalso
                rw [iI_eq0 (by omega)] at h42
                exact hz h42
            · exfalso
              rw [iI_eq0 (by omega)] at h31
              exact hz h31
        · exact absurd h22 (by decide)
      · refine go_if_ne (tgt := 27) dX12_stock_22 (by decide) (fun h22 => ?_) (fun h22 => ?_)
        · exact absurd h22 (by decide)
        · refine go_iconst (v := iI (-1)) dX12_stock_25 (by decide) ?_
          refine go_iret rfl rfl dX12_stock_26 ?_
          have e1 : stockX X a n = X := by unfold stockX; rw [if_neg (by omega)]
          have e2 : stockA X a n = -1 := by unfold stockA; rw [if_neg (by omega)]
          rw [e1, e2] at hK
          exact hK τ hq.1 hC0
  · refine go_if_eq (tgt := 25) dX12_stock_10 (by decide) (fun h10 => ?_) (fun h10 => ?_)
    · refine go_iconst (v := iI (-1)) dX12_stock_25 (by decide) ?_
      refine go_iret rfl rfl dX12_stock_26 ?_
      have e1 : stockX X a n = X := by unfold stockX; rw [if_neg (by omega)]
      have e2 : stockA X a n = -1 := by unfold stockA; rw [if_neg (by omega)]
      rw [e1, e2] at hK
      exact hK τ hq.1 hC0
    · exact absurd h10 (by decide)


theorem AcM_und {σ τ : AS} {a : WT} {l : List WT} {lg : LG} (h : AcM σ (a :: l) lg) (e1 : τ.1 111 40 = iI l.length) (e2 : τ.1 128 = σ.1 128) : AcM τ l lg := by
  refine ⟨e1, fun j b hb => ?_⟩
  have hjl := (List.getElem?_eq_some_iff.mp hb).1
  have h1 := h.2 (j + 1) b (by simpa using hb)
  rw [List.length_cons, show l.length + 1 - 1 - (j + 1) = l.length - 1 - j by omega] at h1
  rw [e2]
  exact h1
theorem ud26 {l : Launch} {D : va_G} {cA ad : Nat → Nat} {d : Nat} {σ : AS} {K : Option Value → AS → Prop} {g : Nat → Int32} {n : Nat} (hR : RO σ) (hn : σ.1 111 40 = iI n) (hn9 : n ≤ 39) (hK : K (some (.int (iI n))) (sI σ 124 (cpR (fun i => σ.1 128 (205 * n + i)) g 205))) : ∀ i : Nat, i ≤ 205 → Go l D cA ad d mX12_undo 26 [.ref 111, .int (iI i)] [] (sI σ 124 (cpR (fun i => σ.1 128 (205 * n + i)) g i)) K := by
  refine up_loop ?_ (fun i hi ih => ?_)
  · refine go_iload_n dX12_undo_26 rfl ?_
    refine go_sipush (v := iI 205) dX12_undo_27 (by decide) ?_
    refine go_icmp_ge (tgt := 60) dX12_undo_30 (by decide) (fun h30 => ?_) (fun h30 => ?_)
    · refine go_aload_n dX12_undo_60 rfl ?_
      refine go_getI fX12_306 dX12_undo_61 rfl ?_
      rw [sI_ne _ _ _ _ (by decide), hn]
      refine go_iret rfl rfl dX12_undo_64 ?_
      exact hK
    · exact absurd (by decide) h30
  · refine go_iload_n dX12_undo_26 rfl ?_
    refine go_sipush (v := iI 205) dX12_undo_27 (by decide) ?_
    refine go_icmp_ge (tgt := 60) dX12_undo_30 (by decide) (fun h30 => ?_) (fun h30 => ?_)
    · exfalso
      rw [iI_le (by omega)] at h30
      omega
    · refine go_aload_n dX12_undo_33 rfl ?_
      refine go_getR fX12_61 dX12_undo_34 rfl (hR _ _ _ rfl) ?_
      refine go_iload_n dX12_undo_37 rfl ?_
      refine go_aload_n dX12_undo_38 rfl ?_
      refine go_getR fX12_81 dX12_undo_39 rfl (hR _ _ _ rfl) ?_
      refine go_sipush (v := iI 205) dX12_undo_42 (by decide) ?_
      refine go_aload_n dX12_undo_45 rfl ?_
      refine go_getI fX12_306 dX12_undo_46 rfl ?_
      rw [sI_ne _ _ _ _ (by decide), hn]
      refine go_imul dX12_undo_49 ?_
      refine go_iload_n dX12_undo_50 rfl ?_
      refine go_iadd dX12_undo_51 ?_
      rw [iI_mul, iI_add, show 205 * (n : Int) + (i : Int) = ((205 * n + i : Nat) : Int) by omega]
      refine go_iald dX12_undo_52 rfl (vp_iI (by omega)) ?_
      rw [cl_n _ (by omega), sI_ne _ _ _ _ (by decide)]
      refine go_iast dX12_undo_53 rfl (vp_iI (by omega)) ?_
      rw [cl_n _ (by omega), sI_same, sI_sI]
      rw [show upd (cpR (fun i => σ.1 128 (205 * n + i)) g i) i (σ.1 128 (205 * n + i)) = cpR (fun i => σ.1 128 (205 * n + i)) g (i + 1) from cpR_s _ _ _]
      refine go_iincI dX12_undo_54 rfl (Nat.le_of_ble_eq_true rfl) rfl ?_
      refine go_goto (tgt := 26) dX12_undo_57 (by decide) ?_
      simp only [List.set, iI_add]
      exact ih

theorem ct_X12_undo {l : Launch} {D : va_G} {cA ad : Nat → Nat} {d : Nat} {σ : AS} {K : Option Value → AS → Prop} {X : XS} (hR : RO σ) (hK0 : XK X) (hC : MI σ X) (hK : ∀ τ, FD σ τ → MI τ (undX X) → K (some (.int (iI (undA X)))) τ) : Call l D cA ad d mX12_undo [.ref 111] σ K := by
  have hl40 := hK0.a.1
  refine call_go (by decide) (Nat.le_of_ble_eq_true rfl) (show Go l D cA ad d mX12_undo 0 [.ref 111, .null] [] σ K from ?_)
  refine go_aload_n dX12_undo_0 rfl ?_
  refine go_iconst (v := iI 0) dX12_undo_1 (by decide) ?_
  refine go_putI fX12_96 rfl dX12_undo_2 rfl rfl rfl ?_
  have hq : DF (xL X) σ (sI σ 111 (upd (σ.1 111) 0 (iI 0))) := DF_f0 DF.rf
  have hR0 := hq.RO hR
  have hC0 := hC.q hK0 hq
  generalize sI σ 111 (upd (σ.1 111) 0 (iI 0)) = τ at hq hR0 hC0 ⊢
  refine go_aload_n dX12_undo_5 rfl ?_
  refine go_getI fX12_306 dX12_undo_6 rfl ?_
  refine go_if_ne (tgt := 14) dX12_undo_9 (by decide) (fun h9 => ?_) (fun h9 => ?_)
  · rw [hC0.2.2.2.1.1, iI_eq0 (by omega)] at h9
    obtain ⟨a2, l2, he⟩ : ∃ a2 l2, xa X = a2 :: l2 := by
      cases e : xa X with
      | nil => rw [e] at h9; exact absurd rfl h9
      | cons a2 l2 => exact ⟨a2, l2, rfl⟩
    refine go_aload_n dX12_undo_14 rfl ?_
    refine go_dup dX12_undo_15 rfl ?_
    refine go_getI fX12_306 dX12_undo_16 rfl ?_
    rw [hC0.2.2.2.1.1, he, List.length_cons]
    refine go_iconst (v := iI 1) dX12_undo_19 (by decide) ?_
    refine go_isub dX12_undo_20 ?_
    rw [iI_sub, show ((l2.length + 1 : Nat) : Int) - 1 = (l2.length : Int) by omega]
    refine go_putI fX12_306 rfl dX12_undo_21 rfl rfl rfl ?_
    refine go_iconst (v := iI 0) dX12_undo_24 (by decide) ?_
    refine go_istore_n dX12_undo_25 (Nat.le_of_ble_eq_true rfl) rfl ?_
    simp only [List.set]
    have hl2 : l2.length ≤ 39 := by rw [he, List.length_cons] at hl40; omega
    have hu0 : DU (xL X) τ (sI τ 111 (upd (τ.1 111) 40 (iI (l2.length : Int)))) := DU_40 DU.rf
    have hA := hC0.2.2.2.1
    rw [he] at hA
    have hrow := hA.2 0 a2 rfl
    rw [List.length_cons, show l2.length + 1 - 1 - 0 = l2.length by omega] at hrow
    have hR2 : RO (sI τ 111 (upd (τ.1 111) 40 (iI (l2.length : Int)))) := hR0
    have e40 : (sI τ 111 (upd (τ.1 111) 40 (iI (l2.length : Int)))).1 111 40 = iI (l2.length : Int) := by rw [sI_same, upd_same]
    have e128 : (sI τ 111 (upd (τ.1 111) 40 (iI (l2.length : Int)))).1 128 = τ.1 128 := sI_ne _ _ _ _ (by decide)
    generalize sI τ 111 (upd (τ.1 111) 40 (iI (l2.length : Int))) = ψ at hu0 hR2 e40 e128 ⊢
    have h9 := ud26 (l := l) (D := D) (cA := cA) (ad := ad) (d := d) (σ := ψ) (K := K) (g := ψ.1 124) (n := l2.length) hR2 e40 hl2 ?_ 0 (by omega)
    · rw [cpR_0, sI_self] at h9
      exact h9
    rw [undX_1 he, show undA X = (l2.length : Int) by unfold undA; rw [he, List.length_cons]; omega] at hK
    have hu : DU (xL X) τ (sI ψ 124 (cpR (fun i => ψ.1 128 (205 * l2.length + i)) (ψ.1 124) 205)) := DU_s hu0 (Or.inl rfl)
    refine hK _ (hq.1.tr hu.1) (hC0.up hu ?_ (AcM_und hA (by rw [sI_ne _ _ _ _ (by decide)]; exact e40) (by rw [sI_ne _ _ _ _ (by decide)]; exact e128)))
    rw [sI_same, e128]
    refine RwM_cg hrow (fun i hi => ?_)
    have hl := lgn_le (dy a2)
    show cpR _ _ 205 i = _
    unfold cpR
    rw [if_pos (by omega)]
  · rw [hC0.2.2.2.1.1, iI_eq0 (by omega)] at h9
    have he : xa X = [] := List.length_eq_zero_iff.mp (by omega)
    refine go_iconst (v := iI (-1)) dX12_undo_12 (by decide) ?_
    refine go_iret rfl rfl dX12_undo_13 ?_
    rw [undX_0 he, show undA X = -1 by unfold undA; rw [he]; rfl] at hK
    exact hK τ hq.1 hC0

theorem MI_f {σ : AS} {X Y : XS} {j : Nat} {v : Int32} (hC : MI σ X) (hj : j = 34 ∨ j = 35 ∨ j = 36) (e1 : xt Y = xt X) (e2 : xs Y = xs X) (e3 : xw Y = xw X) (e4 : xl Y = xl X) (e5 : xa Y = xa X) (e6 : xi Y = xi X) (e7 : xm Y = xm X) (e8 : xL Y = xL X) (e10 : xp Y = xp X) (h9 : (sI σ 111 (upd (σ.1 111) j v)).1 111 34 = iI (xh Y)) (h10 : (sI σ 111 (upd (σ.1 111) j v)).1 111 35 = iI (xo Y)) (h11 : (sI σ 111 (upd (σ.1 111) j v)).1 111 36 = iI (xk Y)) : MI (sI σ 111 (upd (σ.1 111) j v)) Y ∧ FD σ (sI σ 111 (upd (σ.1 111) j v)) := by
  obtain ⟨c1, c2, c3, c4, c5, c6, c7, c8, c9, c10, c11, c12⟩ := hC
  have f : ∀ i, i ≠ j → (sI σ 111 (upd (σ.1 111) j v)).1 111 i = σ.1 111 i := fun i hi => by rw [sI_same, upd_ne _ _ _ _ hi]
  have e : ∀ k, k ≠ 111 → (sI σ 111 (upd (σ.1 111) j v)).1 k = σ.1 k := fun k hk => sI_ne _ _ _ _ hk
  refine ⟨?_, FD.rf.sI (by decide)⟩
  unfold MI
  rw [e1, e2, e3, e4, e5, e6, e7, e8, e10]
  refine ⟨?_, ?_, ?_, ?_, ?_, ?_, ⟨?_, h9, ?_⟩, MeM_sI c8 (by decide), LtM_sI c9 (by decide), ?_, h10, h11⟩
  · unfold TM; rw [f 6 (by omega), e 112 (by decide)]; exact c1
  · unfold TwM; rw [f 26 (by omega), f 27 (by omega), e 116 (by decide), e 118 (by decide), e 120 (by decide)]; exact c2
  · rw [e 124 (by decide)]; exact c3
  · unfold AcM; rw [f 40 (by omega), e 128 (by decide)]; exact c4
  · unfold ImM; rw [f 47 (by omega), e 132 (by decide)]; exact c5
  · unfold MsM; rw [f 45 (by omega), e 129 (by decide), e 130 (by decide)]; exact c6
  · rw [f 7 (by omega)]; exact c7.1
  · rw [e 114 (by decide), e 113 (by decide)]; exact c7.2.2
  · unfold PsM PLM; rw [f 30 (by omega), e 122 (by decide), e 123 (by decide)]; exact c10
theorem ct_X12_law {l : Launch} {D : va_G} {cA ad : Nat → Nat} {d : Nat} {σ : AS} {K : Option Value → AS → Prop} {X : XS} {a : Int} (hR : RO σ) (hK0 : XK X) (hC : MI σ X) (ha32 : -2147483648 ≤ a ∧ a < 2147483648) (hK : ∀ τ, FD σ τ → MI τ (lawX X a) → K (some (.int (iI (lawA X a)))) τ) : Call l D cA ad (d + 1) mX12_law [.ref 111, .int (iI a)] σ K := by
  have h4 := hK0.L.1
  refine call_go (by decide) (Nat.le_of_ble_eq_true rfl) (show Go l D cA ad (d + 1) mX12_law 0 [.ref 111, .int (iI a)] [] σ K from ?_)
  refine go_aload_n dX12_law_0 rfl ?_
  refine go_iconst (v := iI 0) dX12_law_1 (by decide) ?_
  refine go_putI fX12_96 rfl dX12_law_2 rfl rfl rfl ?_
  have hq : DF (xL X) σ (sI σ 111 (upd (σ.1 111) 0 (iI 0))) := DF_f0 DF.rf
  have hR0 := hq.RO hR
  have hC0 := hC.q hK0 hq
  generalize sI σ 111 (upd (σ.1 111) 0 (iI 0)) = τ at hq hR0 hC0 ⊢
  refine go_iload_n dX12_law_5 rfl ?_
  refine go_iconst (v := iI (-1)) dX12_law_6 (by decide) ?_
  refine go_icmp_eq (tgt := 28) dX12_law_7 (by decide) (fun h7 => ?_) (fun h7 => ?_)
  · rw [iI_eq (by omega)] at h7
    refine go_aload_n dX12_law_28 rfl ?_
    refine go_iload_n dX12_law_29 rfl ?_
    refine go_putI fX12_67 rfl dX12_law_30 rfl rfl rfl ?_
    refine go_iconst (v := iI 1) dX12_law_33 (by decide) ?_
    refine go_iret rfl rfl dX12_law_34 ?_
    have e1 : lawX X a = setH X a := by unfold lawX; rw [if_pos (by omega)]
    have e2 : lawA X a = 1 := by unfold lawA; rw [if_pos (by omega)]
    rw [e1, e2] at hK
    obtain ⟨h1, h2⟩ := MI_f (Y := setH X a) (j := 34) (v := iI a) hC0 (by decide) rfl rfl rfl rfl rfl rfl rfl rfl rfl (by rw [sI_same, upd_same]; rfl) (by rw [sI_same, upd_ne _ _ _ _ (by decide)]; exact hC0.2.2.2.2.2.2.2.2.2.2.1) (by rw [sI_same, upd_ne _ _ _ _ (by decide)]; exact hC0.2.2.2.2.2.2.2.2.2.2.2)
    exact hK _ (hq.1.tr h2) h1
  · rw [iI_eq (by omega)] at h7
    refine go_iload_n dX12_law_10 rfl ?_
    refine go_i2l dX12_law_11 ?_
    rw [i2l_iI (by omega)]
    refine go_lconst (v := 0) dX12_law_12 (by decide) ?_
    refine go_aload_n dX12_law_13 rfl ?_
    refine go_getI fX12_286 dX12_law_14 rfl ?_
    rw [hC0.2.2.2.2.2.2.1.1]
    refine go_iconst (v := iI 1) dX12_law_17 (by decide) ?_
    refine go_isub dX12_law_18 ?_
    rw [iI_sub]
    refine go_i2l dX12_law_19 ?_
    rw [i2l_iI (by omega)]
    refine go_callS (as := [_, _, _]) wX12_217 dX12_law_20 rfl rfl (Nat.le_of_ble_eq_true rfl) (ct_isIn2 (x := 0) (y := ((xL X).length : Int) - 1) (by decide) (lL_toInt (by omega)) ha32 (fun hi => ?_) (fun hi => ?_))
    · refine go_if_ne (tgt := 28) dX12_law_23 (by decide) (fun h23 => ?_) (fun h23 => ?_)
      · refine go_aload_n dX12_law_28 rfl ?_
        refine go_iload_n dX12_law_29 rfl ?_
        refine go_putI fX12_67 rfl dX12_law_30 rfl rfl rfl ?_
        refine go_iconst (v := iI 1) dX12_law_33 (by decide) ?_
        refine go_iret rfl rfl dX12_law_34 ?_
        have e1 : lawX X a = setH X a := by unfold lawX; rw [if_pos (by omega)]
        have e2 : lawA X a = 1 := by unfold lawA; rw [if_pos (by omega)]
        rw [e1, e2] at hK
        obtain ⟨h1, h2⟩ := MI_f (Y := setH X a) (j := 34) (v := iI a) hC0 (by decide) rfl rfl rfl rfl rfl rfl rfl rfl rfl (by rw [sI_same, upd_same]; rfl) (by rw [sI_same, upd_ne _ _ _ _ (by decide)]; exact hC0.2.2.2.2.2.2.2.2.2.2.1) (by rw [sI_same, upd_ne _ _ _ _ (by decide)]; exact hC0.2.2.2.2.2.2.2.2.2.2.2)
        exact hK _ (hq.1.tr h2) h1
      · exact absurd h23 (by decide)
    · refine go_if_ne (tgt := 28) dX12_law_23 (by decide) (fun h23 => ?_) (fun h23 => ?_)
      · exact absurd h23 (by decide)
      · refine go_iconst (v := iI 0) dX12_law_26 (by decide) ?_
        refine go_iret rfl rfl dX12_law_27 ?_
        have e1 : lawX X a = X := by unfold lawX; rw [if_neg (by omega)]
        have e2 : lawA X a = 0 := by unfold lawA; rw [if_neg (by omega)]
        rw [e1, e2] at hK
        exact hK τ hq.1 hC0

theorem ct_X12_odds {l : Launch} {D : va_G} {cA ad : Nat → Nat} {d : Nat} {σ : AS} {K : Option Value → AS → Prop} {X : XS} {a b : Int} (hR : RO σ) (hK0 : XK X) (hC : MI σ X) (ha32 : -2147483648 ≤ a ∧ a < 2147483648) (hb32 : -2147483648 ≤ b ∧ b < 2147483648) (hK : ∀ τ, FD σ τ → MI τ (oddX X a b) → K (some (.int (iI (oddA X a b)))) τ) : Call l D cA ad (d + 1) mX12_odds [.ref 111, .int (iI a), .int (iI b)] σ K := by
  have h5 := hK0.o
  have h6 := hK0.k
  refine call_go (by decide) (Nat.le_of_ble_eq_true rfl) (show Go l D cA ad (d + 1) mX12_odds 0 [.ref 111, .int (iI a), .int (iI b)] [] σ K from ?_)
  refine go_aload_n dX12_odds_0 rfl ?_
  refine go_iconst (v := iI 0) dX12_odds_1 (by decide) ?_
  refine go_putI fX12_96 rfl dX12_odds_2 rfl rfl rfl ?_
  have hq : DF (xL X) σ (sI σ 111 (upd (σ.1 111) 0 (iI 0))) := DF_f0 DF.rf
  have hR0 := hq.RO hR
  have hC0 := hC.q hK0 hq
  generalize sI σ 111 (upd (σ.1 111) 0 (iI 0)) = τ at hq hR0 hC0 ⊢
  refine go_iload_n dX12_odds_5 rfl ?_
  refine go_i2l dX12_odds_6 ?_
  rw [i2l_iI (by omega)]
  refine go_lconst (v := 0) dX12_odds_7 (by decide) ?_
  refine go_lconst (v := 1) dX12_odds_8 (by decide) ?_
  refine go_callS (as := [_, _, _]) wX12_217 dX12_odds_9 rfl rfl (Nat.le_of_ble_eq_true rfl) (ct_isIn2 (x := 0) (y := 1) (by decide) (by decide) (by omega) (fun hi => ?_) (fun hi => ?_))
  · refine go_if_eq (tgt := 46) dX12_odds_12 (by decide) (fun h12 => ?_) (fun h12 => ?_)
    · exact absurd h12 (by decide)
    · refine go_iload_n dX12_odds_15 rfl ?_
      refine go_i2l dX12_odds_16 ?_
      rw [i2l_iI (by omega)]
      refine go_lconst (v := 0) dX12_odds_17 (by decide) ?_
      refine go_ldc2 lX12_372 dX12_odds_18 ?_
      refine go_callS (as := [_, _, _]) wX12_217 dX12_odds_21 rfl rfl (Nat.le_of_ble_eq_true rfl) (ct_isIn2 (x := 0) (y := 99) (by decide) (by decide) (by omega) (fun hj => ?_) (fun hj => ?_))
      · refine go_if_eq (tgt := 46) dX12_odds_24 (by decide) (fun h24 => ?_) (fun h24 => ?_)
        · exact absurd h24 (by decide)
        · refine go_iload_n dX12_odds_27 rfl ?_
          refine go_iload_n dX12_odds_28 rfl ?_
          refine go_if_ne (tgt := 39) dX12_odds_29 (by decide) (fun h29 => ?_) (fun h29 => ?_)
          · rw [iI_eq0 (by omega)] at h29
            refine go_aload_n dX12_odds_39 rfl ?_
            refine go_getI fX12_374 dX12_odds_40 rfl ?_
            rw [hC0.2.2.2.2.2.2.2.2.2.2.2]
            refine go_icmp_ne (tgt := 48) dX12_odds_43 (by decide) (fun h43 => ?_) (fun h43 => ?_)
            · rw [iI_eq (by omega)] at h43
              refine go_iload_n dX12_odds_48 rfl ?_
              refine go_if_ne (tgt := 60) dX12_odds_49 (by decide) (fun h49 => ?_) (fun h49 => ?_)
              · rw [iI_eq0 (by omega)] at h49
                refine go_aload_n dX12_odds_60 rfl ?_
                refine go_iload_n dX12_odds_61 rfl ?_
                refine go_putI fX12_374 rfl dX12_odds_62 rfl rfl rfl ?_
                refine go_iconst (v := iI 1) dX12_odds_65 (by decide) ?_
                refine go_iret rfl rfl dX12_odds_66 ?_
                have e1 : oddX X a b = setPk X b := by unfold oddX; rw [if_pos (by omega), if_neg (by omega)]
                have e2 : oddA X a b = 1 := by unfold oddA; rw [if_pos (by omega)]
                rw [e1, e2] at hK
                obtain ⟨h1, h2⟩ := MI_f (Y := setPk X b) (j := 36) (v := iI b) hC0 (by decide) rfl rfl rfl rfl rfl rfl rfl rfl rfl (by rw [sI_same, upd_ne _ _ _ _ (by decide)]; exact hC0.2.2.2.2.2.2.1.2.1) (by rw [sI_same, upd_ne _ _ _ _ (by decide)]; exact hC0.2.2.2.2.2.2.2.2.2.2.1) (by rw [sI_same, upd_same]; rfl)
                exact hK _ (hq.1.tr h2) h1
              · rw [iI_eq0 (by omega)] at h49
                refine go_aload_n dX12_odds_52 rfl ?_
                refine go_iload_n dX12_odds_53 rfl ?_
                refine go_putI fX12_71 rfl dX12_odds_54 rfl rfl rfl ?_
                refine go_goto (tgt := 65) dX12_odds_57 (by decide) ?_
                refine go_iconst (v := iI 1) dX12_odds_65 (by decide) ?_
                refine go_iret rfl rfl dX12_odds_66 ?_
                have e1 : oddX X a b = setSt X b := by unfold oddX; rw [if_pos (by omega), if_pos (by omega)]
                have e2 : oddA X a b = 1 := by unfold oddA; rw [if_pos (by omega)]
                rw [e1, e2] at hK
                obtain ⟨h1, h2⟩ := MI_f (Y := setSt X b) (j := 35) (v := iI b) hC0 (by decide) rfl rfl rfl rfl rfl rfl rfl rfl rfl (by rw [sI_same, upd_ne _ _ _ _ (by decide)]; exact hC0.2.2.2.2.2.2.1.2.1) (by rw [sI_same, upd_same]; rfl) (by rw [sI_same, upd_ne _ _ _ _ (by decide)]; exact hC0.2.2.2.2.2.2.2.2.2.2.2)
                exact hK _ (hq.1.tr h2) h1
            · rw [iI_eq (by omega)] at h43
              refine go_iconst (v := iI 0) dX12_odds_46 (by decide) ?_
              refine go_iret rfl rfl dX12_odds_47 ?_
              have e1 : oddX X a b = X := by unfold oddX; rw [if_neg (by omega)]
              have e2 : oddA X a b = 0 := by unfold oddA; rw [if_neg (by omega)]
              rw [e1, e2] at hK
              exact hK τ hq.1 hC0
          · rw [iI_eq0 (by omega)] at h29
            refine go_aload_n dX12_odds_32 rfl ?_
            refine go_getI fX12_71 dX12_odds_33 rfl ?_
            rw [hC0.2.2.2.2.2.2.2.2.2.2.1]
            refine go_goto (tgt := 43) dX12_odds_36 (by decide) ?_
            refine go_icmp_ne (tgt := 48) dX12_odds_43 (by decide) (fun h43 => ?_) (fun h43 => ?_)
            · rw [iI_eq (by omega)] at h43
              refine go_iload_n dX12_odds_48 rfl ?_
              refine go_if_ne (tgt := 60) dX12_odds_49 (by decide) (fun h49 => ?_) (fun h49 => ?_)
              · rw [iI_eq0 (by omega)] at h49
                refine go_aload_n dX12_odds_60 rfl ?_
                refine go_iload_n dX12_odds_61 rfl ?_
                refine go_putI fX12_374 rfl dX12_odds_62 rfl rfl rfl ?_
                refine go_iconst (v := iI 1) dX12_odds_65 (by decide) ?_
                refine go_iret rfl rfl dX12_odds_66 ?_
                have e1 : oddX X a b = setPk X b := by unfold oddX; rw [if_pos (by omega), if_neg (by omega)]
                have e2 : oddA X a b = 1 := by unfold oddA; rw [if_pos (by omega)]
                rw [e1, e2] at hK
                obtain ⟨h1, h2⟩ := MI_f (Y := setPk X b) (j := 36) (v := iI b) hC0 (by decide) rfl rfl rfl rfl rfl rfl rfl rfl rfl (by rw [sI_same, upd_ne _ _ _ _ (by decide)]; exact hC0.2.2.2.2.2.2.1.2.1) (by rw [sI_same, upd_ne _ _ _ _ (by decide)]; exact hC0.2.2.2.2.2.2.2.2.2.2.1) (by rw [sI_same, upd_same]; rfl)
                exact hK _ (hq.1.tr h2) h1
              · rw [iI_eq0 (by omega)] at h49
                refine go_aload_n dX12_odds_52 rfl ?_
                refine go_iload_n dX12_odds_53 rfl ?_
                refine go_putI fX12_71 rfl dX12_odds_54 rfl rfl rfl ?_
                refine go_goto (tgt := 65) dX12_odds_57 (by decide) ?_
                refine go_iconst (v := iI 1) dX12_odds_65 (by decide) ?_
                refine go_iret rfl rfl dX12_odds_66 ?_
                have e1 : oddX X a b = setSt X b := by unfold oddX; rw [if_pos (by omega), if_pos (by omega)]
                have e2 : oddA X a b = 1 := by unfold oddA; rw [if_pos (by omega)]
                rw [e1, e2] at hK
                obtain ⟨h1, h2⟩ := MI_f (Y := setSt X b) (j := 35) (v := iI b) hC0 (by decide) rfl rfl rfl rfl rfl rfl rfl rfl rfl (by rw [sI_same, upd_ne _ _ _ _ (by decide)]; exact hC0.2.2.2.2.2.2.1.2.1) (by rw [sI_same, upd_same]; rfl) (by rw [sI_same, upd_ne _ _ _ _ (by decide)]; exact hC0.2.2.2.2.2.2.2.2.2.2.2)
                exact hK _ (hq.1.tr h2) h1
            · rw [iI_eq (by omega)] at h43
              refine go_iconst (v := iI 0) dX12_odds_46 (by decide) ?_
              refine go_iret rfl rfl dX12_odds_47 ?_
              have e1 : oddX X a b = X := by unfold oddX; rw [if_neg (by omega)]
              have e2 : oddA X a b = 0 := by unfold oddA; rw [if_neg (by omega)]
              rw [e1, e2] at hK
              exact hK τ hq.1 hC0
      · refine go_if_eq (tgt := 46) dX12_odds_24 (by decide) (fun h24 => ?_) (fun h24 => ?_)
        · refine go_iconst (v := iI 0) dX12_odds_46 (by decide) ?_
          refine go_iret rfl rfl dX12_odds_47 ?_
          have e1 : oddX X a b = X := by unfold oddX; rw [if_neg (by omega)]
          have e2 : oddA X a b = 0 := by unfold oddA; rw [if_neg (by omega)]
          rw [e1, e2] at hK
          exact hK τ hq.1 hC0
        · exact absurd h24 (by decide)
  · refine go_if_eq (tgt := 46) dX12_odds_12 (by decide) (fun h12 => ?_) (fun h12 => ?_)
    · refine go_iconst (v := iI 0) dX12_odds_46 (by decide) ?_
      refine go_iret rfl rfl dX12_odds_47 ?_
      have e1 : oddX X a b = X := by unfold oddX; rw [if_neg (by omega)]
      have e2 : oddA X a b = 0 := by unfold oddA; rw [if_neg (by omega)]
      rw [e1, e2] at hK
      exact hK τ hq.1 hC0
    · exact absurd h12 (by decide)

theorem MI_im {σ : AS} {X : XS} {r : Nat → Int32} (hC : MI σ X) (h : RwM r (xw X) (xl X)) : MI (sI (sI σ 132 r) 111 (upd (σ.1 111) 47 (iI 1))) (setIm X (some (xw X, xl X))) ∧ FD σ (sI (sI σ 132 r) 111 (upd (σ.1 111) 47 (iI 1))) := by
  obtain ⟨c1, c2, c3, c4, c5, c6, c7, c8, c9, c10, c11, c12⟩ := hC
  have f : ∀ i, i ≠ 47 → (sI (sI σ 132 r) 111 (upd (σ.1 111) 47 (iI 1))).1 111 i = σ.1 111 i := fun i hi => by rw [sI_same, upd_ne _ _ _ _ hi]
  have e : ∀ k, k ≠ 111 → k ≠ 132 → (sI (sI σ 132 r) 111 (upd (σ.1 111) 47 (iI 1))).1 k = σ.1 k := fun k hk h2 => by rw [sI_ne _ _ _ _ hk, sI_ne _ _ _ _ h2]
  refine ⟨⟨?_, ?_, ?_, ?_, ⟨by rw [sI_same, upd_same]; rfl, fun a l q => ?_⟩, ?_, ?_, MeM_sI (MeM_sI c8 (by decide)) (by decide), LtM_sI (LtM_sI c9 (by decide)) (by decide), ?_, ?_, ?_⟩, (FD.rf.sI (by decide)).sI (by decide)⟩
  · unfold TM; rw [f 6 (by omega), e 112 (by decide) (by decide)]; exact c1
  · unfold TwM; rw [f 26 (by omega), f 27 (by omega), e 116 (by decide) (by decide), e 118 (by decide) (by decide), e 120 (by decide) (by decide)]; exact c2
  · rw [e 124 (by decide) (by decide)]; exact c3
  · unfold AcM; rw [f 40 (by omega), e 128 (by decide) (by decide)]; exact c4
  · obtain ⟨q1, q2⟩ := Prod.mk.inj (Option.some.inj (show some (xw X, xl X) = some (a, l) from q))
    subst q1; subst q2
    rw [sI_ne _ _ _ _ (by decide), sI_same]
    exact h
  · unfold MsM; rw [f 45 (by omega), e 129 (by decide) (by decide), e 130 (by decide) (by decide)]; exact c6
  · unfold LsM; rw [f 7 (by omega), f 34 (by omega), e 114 (by decide) (by decide), e 113 (by decide) (by decide)]; exact c7
  · unfold PsM PLM; rw [f 30 (by omega), e 122 (by decide) (by decide), e 123 (by decide) (by decide)]; exact c10
  · rw [f 35 (by omega)]; exact c11
  · rw [f 36 (by omega)]; exact c12
theorem ct_X12_image {l : Launch} {D : va_G} {cA ad : Nat → Nat} {d : Nat} {σ : AS} {K : Option Value → AS → Prop} {X : XS} (hR : RO σ) (hK0 : XK X) (hC : MI σ X) (hK : ∀ τ, FD σ τ → MI τ (imgX X) → K (some (.int (iI (imgA X)))) τ) : Call l D cA ad (d + 1) mX12_image [.ref 111] σ K := by
  have hP7 := hK0.s.1
  have hQ9 := hK0.s.2.1
  refine call_go (by decide) (Nat.le_of_ble_eq_true rfl) (show Go l D cA ad (d + 1) mX12_image 0 [.ref 111] [] σ K from ?_)
  refine go_aload_n dX12_image_0 rfl ?_
  refine go_iconst (v := iI 0) dX12_image_1 (by decide) ?_
  refine go_putI fX12_96 rfl dX12_image_2 rfl rfl rfl ?_
  have hq : DF (xL X) σ (sI σ 111 (upd (σ.1 111) 0 (iI 0))) := DF_f0 DF.rf
  have hR0 := hq.RO hR
  have hC0 := hC.q hK0 hq
  generalize sI σ 111 (upd (σ.1 111) 0 (iI 0)) = τ at hq hR0 hC0 ⊢
  refine go_aload_n dX12_image_5 rfl ?_
  refine go_getI fX12_294 dX12_image_6 rfl ?_
  refine go_if_ne (tgt := 14) dX12_image_9 (by decide) (fun h9 => ?_) (fun h9 => ?_)
  · rw [hC0.2.1.1, iI_eq0 (by omega)] at h9
    refine go_aload_n dX12_image_14 rfl ?_
    refine go_getR fX12_61 dX12_image_15 rfl (hR0 _ _ _ rfl) ?_
    refine go_aload_n dX12_image_18 rfl ?_
    refine go_getR fX12_93 dX12_image_19 rfl (hR0 _ _ _ rfl) ?_
    refine go_callS (as := [_, _]) wX12_409 dX12_image_22 rfl rfl (Nat.le_of_ble_eq_true rfl) (ct_X12_copy (a := 124) (b := 132) (w := xw X) (lg := xl X) rfl rfl (by decide) hC0.2.2.1 (fun r hr => ?_))
    refine go_aload_n dX12_image_25 rfl ?_
    refine go_iconst (v := iI 1) dX12_image_26 (by decide) ?_
    refine go_putI fX12_309 rfl dX12_image_27 rfl rfl rfl ?_
    refine go_aload_n dX12_image_30 rfl ?_
    refine go_getR fX12_61 dX12_image_31 rfl (hR0 _ _ _ rfl) ?_
    refine go_bipush (v := iI 23) dX12_image_34 (by decide) ?_
    refine go_iald dX12_image_36 rfl (vp_iI (by decide)) ?_
    rw [show (iI 23).toNatClampNeg = 23 by decide, sI_ne _ _ _ _ (by decide), sI_ne _ _ _ _ (by decide), hC0.2.2.1.1.2.2.2]
    refine go_iret rfl rfl dX12_image_37 ?_
    have e1 : imgX X = setIm X (some (xw X, xl X)) := by unfold imgX; rw [if_pos (by omega)]
    have e2 : imgA X = (dy (xw X) : Int) := by unfold imgA; rw [if_pos (by omega)]
    rw [e1, e2] at hK
    obtain ⟨h1, h2⟩ := MI_im hC0 hr
    exact hK _ (hq.1.tr h2) h1
  · rw [hC0.2.1.1, iI_eq0 (by omega)] at h9
    refine go_iconst (v := iI (-1)) dX12_image_12 (by decide) ?_
    refine go_iret rfl rfl dX12_image_13 ?_
    have e1 : imgX X = X := by unfold imgX; rw [if_neg (by omega)]
    have e2 : imgA X = -1 := by unfold imgA; rw [if_neg (by omega)]
    rw [e1, e2] at hK
    exact hK τ hq.1 hC0

theorem ct_X12_back {l : Launch} {D : va_G} {cA ad : Nat → Nat} {d : Nat} {σ : AS} {K : Option Value → AS → Prop} {X : XS} (hR : RO σ) (hK0 : XK X) (hC : MI σ X) (hK : ∀ τ, FD σ τ → MI τ (bckX X) → K (some (.int (iI (bckA X)))) τ) : Call l D cA ad (d + 1) mX12_back [.ref 111] σ K := by
  have hP7 := hK0.s.1
  have hQ9 := hK0.s.2.1
  refine call_go (by decide) (Nat.le_of_ble_eq_true rfl) (show Go l D cA ad (d + 1) mX12_back 0 [.ref 111] [] σ K from ?_)
  refine go_aload_n dX12_back_0 rfl ?_
  refine go_iconst (v := iI 0) dX12_back_1 (by decide) ?_
  refine go_putI fX12_96 rfl dX12_back_2 rfl rfl rfl ?_
  have hq : DF (xL X) σ (sI σ 111 (upd (σ.1 111) 0 (iI 0))) := DF_f0 DF.rf
  have hR0 := hq.RO hR
  have hC0 := hC.q hK0 hq
  generalize sI σ 111 (upd (σ.1 111) 0 (iI 0)) = τ at hq hR0 hC0 ⊢
  refine go_aload_n dX12_back_5 rfl ?_
  refine go_getI fX12_309 dX12_back_6 rfl ?_
  refine go_if_ne (tgt := 14) dX12_back_9 (by decide) (fun h9 => ?_) (fun h9 => ?_)
  · rw [hC0.2.2.2.2.1.1] at h9
    obtain ⟨a, lg, hi⟩ : ∃ a lg, xi X = some (a, lg) := by
      cases e : xi X with
      | none => rw [e] at h9; exact absurd rfl h9
      | some p => exact ⟨p.1, p.2, rfl⟩
    have him := hC0.2.2.2.2.1.2 a lg hi
    refine go_aload_n dX12_back_14 rfl ?_
    refine go_getR fX12_93 dX12_back_15 rfl (hR0 _ _ _ rfl) ?_
    refine go_aload_n dX12_back_18 rfl ?_
    refine go_getR fX12_61 dX12_back_19 rfl (hR0 _ _ _ rfl) ?_
    refine go_callS (as := [_, _]) wX12_409 dX12_back_22 rfl rfl (Nat.le_of_ble_eq_true rfl) (ct_X12_copy (a := 132) (b := 124) (w := a) (lg := lg) rfl rfl (by decide) him (fun r hr => ?_))
    refine go_aload_n dX12_back_25 rfl ?_
    refine go_iconst (v := iI 0) dX12_back_26 (by decide) ?_
    refine go_putI fX12_306 rfl dX12_back_27 rfl rfl rfl ?_
    refine go_aload_n dX12_back_30 rfl ?_
    refine go_getR fX12_61 dX12_back_31 rfl (hR0 _ _ _ rfl) ?_
    refine go_bipush (v := iI 23) dX12_back_34 (by decide) ?_
    refine go_iald dX12_back_36 rfl (vp_iI (by decide)) ?_
    rw [show (iI 23).toNatClampNeg = 23 by decide, sI_ne _ _ _ _ (by decide), sI_same, hr.1.2.2.2]
    refine go_iret rfl rfl dX12_back_37 ?_
    rw [(bck_1 hi).1, (bck_1 hi).2] at hK
    have hu : DU (xL X) τ (sI (sI τ 124 r) 111 (upd ((sI τ 124 r).1 111) 40 (iI 0))) := DU_40 (DU_s DU.rf (Or.inl rfl))
    refine hK _ (hq.1.tr hu.1) (hC0.up hu (by rw [sI_ne _ _ _ _ (by decide), sI_same]; exact hr) ⟨by rw [sI_same, upd_same]; rfl, fun j b hb => by simp at hb⟩)
  · rw [hC0.2.2.2.2.1.1] at h9
    have hi : xi X = none := by
      cases e : xi X with
      | none => rfl
      | some p => rw [e] at h9; exact absurd (show iI 1 = 0 from h9) (by decide)
    refine go_iconst (v := iI (-1)) dX12_back_12 (by decide) ?_
    refine go_iret rfl rfl dX12_back_13 ?_
    rw [(bck_0 hi).1, (bck_0 hi).2] at hK
    exact hK τ hq.1 hC0

theorem MI_ms {σ τ : AS} {X : XS} {m : List (Nat × Int)} {r1 r2 : Nat → Int32} {v : Int32} (hC : MI σ X) (eτ : τ = sI (sI (sI σ 129 r1) 130 r2) 111 (upd (σ.1 111) 45 v)) (h : MsM τ m) : MI τ (setMs X m) ∧ FD σ τ := by
  obtain ⟨c1, c2, c3, c4, c5, c6, c7, c8, c9, c10, c11, c12⟩ := hC
  have f : ∀ i, i ≠ 45 → τ.1 111 i = σ.1 111 i := fun i hi => by rw [eτ, sI_same, upd_ne _ _ _ _ hi]
  have e : ∀ k, k ≠ 111 → k ≠ 129 → k ≠ 130 → τ.1 k = σ.1 k := fun k hk h2 h3 => by rw [eτ, sI_ne _ _ _ _ hk, sI_ne _ _ _ _ h3, sI_ne _ _ _ _ h2]
  refine ⟨⟨?_, ?_, ?_, ?_, ?_, h, ?_, by rw [eτ]; exact MeM_sI (MeM_sI (MeM_sI c8 (by decide)) (by decide)) (by decide), by rw [eτ]; exact LtM_sI (LtM_sI (LtM_sI c9 (by decide)) (by decide)) (by decide), ?_, ?_, ?_⟩, by rw [eτ]; exact ((FD.rf.sI (by decide)).sI (by decide)).sI (by decide)⟩
  · unfold TM; rw [f 6 (by omega), e 112 (by decide) (by decide) (by decide)]; exact c1
  · unfold TwM; rw [f 26 (by omega), f 27 (by omega), e 116 (by decide) (by decide) (by decide), e 118 (by decide) (by decide) (by decide), e 120 (by decide) (by decide) (by decide)]; exact c2
  · rw [e 124 (by decide) (by decide) (by decide)]; exact c3
  · unfold AcM; rw [f 40 (by omega), e 128 (by decide) (by decide) (by decide)]; exact c4
  · unfold ImM; rw [f 47 (by omega), e 132 (by decide) (by decide) (by decide)]; exact c5
  · unfold LsM; rw [f 7 (by omega), f 34 (by omega), e 114 (by decide) (by decide) (by decide), e 113 (by decide) (by decide) (by decide)]; exact c7
  · unfold PsM PLM; rw [f 30 (by omega), e 122 (by decide) (by decide) (by decide), e 123 (by decide) (by decide) (by decide)]; exact c10
  · rw [f 35 (by omega)]; exact c11
  · rw [f 36 (by omega)]; exact c12
theorem ct_X12_measured {l : Launch} {D : va_G} {cA ad : Nat → Nat} {d : Nat} {σ : AS} {K : Option Value → AS → Prop} {X : XS} {a b : Int} (hR : RO σ) (hK0 : XK X) (hC : MI σ X) (ha32 : -2147483648 ≤ a ∧ a < 2147483648) (hb32 : -2147483648 ≤ b ∧ b < 2147483648) (hK : ∀ τ, FD σ τ → MI τ (msrX X a b) → K (some (.int (iI (msrA X a b)))) τ) : Call l D cA ad (d + 1) mX12_measured [.ref 111, .int (iI a), .int (iI b)] σ K := by
  have hP7 := hK0.s.1
  have hQ9 := hK0.s.2.1
  have hm10 := hK0.m.1
  refine call_go (by decide) (Nat.le_of_ble_eq_true rfl) (show Go l D cA ad (d + 1) mX12_measured 0 [.ref 111, .int (iI a), .int (iI b)] [] σ K from ?_)
  refine go_aload_n dX12_measured_0 rfl ?_
  refine go_iconst (v := iI 0) dX12_measured_1 (by decide) ?_
  refine go_putI fX12_96 rfl dX12_measured_2 rfl rfl rfl ?_
  have hq : DF (xL X) σ (sI σ 111 (upd (σ.1 111) 0 (iI 0))) := DF_f0 DF.rf
  have hR0 := hq.RO hR
  have hC0 := hC.q hK0 hq
  generalize sI σ 111 (upd (σ.1 111) 0 (iI 0)) = τ at hq hR0 hC0 ⊢
  refine go_aload_n dX12_measured_5 rfl ?_
  refine go_iload_n dX12_measured_6 rfl ?_
  refine go_callV (as := [_]) wX12_364 dX12_measured_7 rfl rfl rfl rfl (Nat.le_of_ble_eq_true rfl) (ct_isPond2 ha32 hC0.2.1 hK0.s (fun k hke hkl => ?_) (fun hkx => ?_))
  · refine go_if_eq (tgt := 36) dX12_measured_10 (by decide) (fun h10 => ?_) (fun h10 => ?_)
    · exact absurd h10 (by decide)
    · subst hke
      refine go_iload_n dX12_measured_13 rfl ?_
      refine go_i2l dX12_measured_14 ?_
      rw [i2l_iI (by omega)]
      refine go_ldc2 lX12_443 dX12_measured_15 ?_
      refine go_ldc2 lX12_367 dX12_measured_18 ?_
      refine go_callS (as := [_, _, _]) wX12_217 dX12_measured_21 rfl rfl (Nat.le_of_ble_eq_true rfl) (ct_isIn2 (x := -9) (y := 9) (by decide) (by decide) (by omega) (fun hi => ?_) (fun hi => ?_))
      · refine go_if_eq (tgt := 36) dX12_measured_24 (by decide) (fun h24 => ?_) (fun h24 => ?_)
        · exact absurd h24 (by decide)
        · refine go_aload_n dX12_measured_27 rfl ?_
          refine go_getI fX12_303 dX12_measured_28 rfl ?_
          refine go_bipush (v := iI 10) dX12_measured_31 (by decide) ?_
          refine go_icmp_ne (tgt := 38) dX12_measured_33 (by decide) (fun h33 => ?_) (fun h33 => ?_)
          · rw [hC0.2.2.2.2.2.1.1, iI_eq (by omega)] at h33
            refine go_aload_n dX12_measured_38 rfl ?_
            refine go_getR fX12_84 dX12_measured_39 rfl (hR0 _ _ _ rfl) ?_
            refine go_aload_n dX12_measured_42 rfl ?_
            refine go_getI fX12_303 dX12_measured_43 rfl ?_
            rw [hC0.2.2.2.2.2.1.1]
            refine go_iload_n dX12_measured_46 rfl ?_
            refine go_iast dX12_measured_47 rfl (vp_iI (by omega)) ?_
            rw [cl_n _ (by omega)]
            refine go_aload_n dX12_measured_48 rfl ?_
            refine go_getR fX12_87 dX12_measured_49 rfl (hR0 _ _ _ rfl) ?_
            refine go_aload_n dX12_measured_52 rfl ?_
            refine go_getI fX12_303 dX12_measured_53 rfl ?_
            rw [sI_ne _ _ _ _ (by decide), hC0.2.2.2.2.2.1.1]
            refine go_iload_n dX12_measured_56 rfl ?_
            refine go_iast dX12_measured_57 rfl (vp_iI (by omega)) ?_
            rw [cl_n _ (by omega), sI_ne _ _ _ _ (by decide)]
            refine go_aload_n dX12_measured_58 rfl ?_
            refine go_dup dX12_measured_59 rfl ?_
            refine go_getI fX12_303 dX12_measured_60 rfl ?_
            rw [sI_ne _ _ _ _ (by decide), sI_ne _ _ _ _ (by decide), hC0.2.2.2.2.2.1.1]
            refine go_iconst (v := iI 1) dX12_measured_63 (by decide) ?_
            refine go_iadd dX12_measured_64 ?_
            rw [iI_add]
            refine go_putI fX12_303 rfl dX12_measured_65 rfl rfl rfl ?_
            rw [sI_ne _ _ _ _ (by decide), sI_ne _ _ _ _ (by decide)]
            refine go_aload_n dX12_measured_68 rfl ?_
            refine go_getI fX12_303 dX12_measured_69 rfl ?_
            rw [sI_same, upd_same]
            refine go_iret rfl rfl dX12_measured_72 ?_
            have e1 : msrX X k b = setMs X (xm X ++ [(k, b)]) := by unfold msrX; rw [if_pos (by omega)]; rfl
            have e2 : msrA X k b = ((xm X).length : Int) + 1 := by unfold msrA; rw [if_pos (by omega)]
            rw [e1, e2] at hK
            have hms : MsM (sI (sI (sI τ 129 (upd (τ.1 129) (xm X).length (iI k))) 130 (upd (τ.1 130) (xm X).length (iI b))) 111 (upd (τ.1 111) 45 (iI (((xm X).length : Int) + 1)))) (xm X ++ [(k, b)]) := by
              refine ⟨?_, fun j m hj => ?_⟩
              · rw [sI_same, upd_same, List.length_append]; rfl
              · rw [sI_ne _ _ _ _ (by decide), sI_ne _ _ _ _ (by decide), sI_same, sI_ne _ _ _ _ (by decide), sI_same]
                by_cases c : j < (xm X).length
                · rw [List.getElem?_append_left c] at hj
                  rw [upd_ne _ _ _ _ (by omega), upd_ne _ _ _ _ (by omega)]
                  exact hC0.2.2.2.2.2.1.2 j m hj
                · have hjl := (List.getElem?_eq_some_iff.mp hj).1
                  rw [List.length_append] at hjl
                  have hj2 : j = (xm X).length := by simp only [List.length_cons, List.length_nil] at hjl; omega
                  subst hj2
                  rw [List.getElem?_append_right (Nat.le_refl _), Nat.sub_self] at hj
                  have e : (k, b) = m := by simpa using hj
                  subst e
                  rw [upd_same, upd_same]
                  exact ⟨rfl, rfl⟩
            obtain ⟨h1, h2⟩ := MI_ms hC0 rfl hms
            exact hK _ (hq.1.tr h2) h1
          · rw [hC0.2.2.2.2.2.1.1, iI_eq (by omega)] at h33
            refine go_iconst (v := iI (-1)) dX12_measured_36 (by decide) ?_
            refine go_iret rfl rfl dX12_measured_37 ?_
            have e1 : msrX X k b = X := by unfold msrX; rw [if_neg (by omega)]
            have e2 : msrA X k b = -1 := by unfold msrA; rw [if_neg (by omega)]
            rw [e1, e2] at hK
            exact hK τ hq.1 hC0
      · refine go_if_eq (tgt := 36) dX12_measured_24 (by decide) (fun h24 => ?_) (fun h24 => ?_)
        · refine go_iconst (v := iI (-1)) dX12_measured_36 (by decide) ?_
          refine go_iret rfl rfl dX12_measured_37 ?_
          have e1 : msrX X k b = X := by unfold msrX; rw [if_neg (by omega)]
          have e2 : msrA X k b = -1 := by unfold msrA; rw [if_neg (by omega)]
          rw [e1, e2] at hK
          exact hK τ hq.1 hC0
        · exact absurd h24 (by decide)
  · refine go_if_eq (tgt := 36) dX12_measured_10 (by decide) (fun h10 => ?_) (fun h10 => ?_)
    · refine go_iconst (v := iI (-1)) dX12_measured_36 (by decide) ?_
      refine go_iret rfl rfl dX12_measured_37 ?_
      have e1 : msrX X a b = X := by unfold msrX; rw [if_neg (by omega)]
      have e2 : msrA X a b = -1 := by unfold msrA; rw [if_neg (by omega)]
      rw [e1, e2] at hK
      exact hK τ hq.1 hC0
    · exact absurd h10 (by decide)

