/-! the model's clause -/
def PSM (σ : AS) (s : PS) : Prop := σ.1 111 31 = iI s.1 ∧ σ.1 111 28 = iI s.2.1 ∧ σ.1 111 29 = iI s.2.2.1 ∧ (∀ j, j < 3 → σ.1 117 j = iI (s.2.2.2.1 j)) ∧ (∀ i j, i < s.2.1 → j < 9 → σ.1 119 (9 * i + j) = iI (s.2.2.2.2.1 i j)) ∧ (∀ i j, i < s.2.2.1 → j < 5 → σ.1 121 (5 * i + j) = iI (s.2.2.2.2.2 i j))
def FrM (σ τ : AS) : Prop := τ.2 = σ.2 ∧ (∀ k, k ≠ 111 → k ≠ 117 → k ≠ 119 → k ≠ 121 → τ.1 k = σ.1 k) ∧ ∀ j, j ≠ 28 → j ≠ 29 → j ≠ 31 → τ.1 111 j = σ.1 111 j
theorem FrM.rf {σ : AS} : FrM σ σ := ⟨rfl, fun _ _ _ _ _ => rfl, fun _ _ _ _ => rfl⟩
theorem FrM.tr {σ τ ρ : AS} (h : FrM σ τ) (g : FrM τ ρ) : FrM σ ρ := ⟨g.1.trans h.1, fun k a b c d => (g.2.1 k a b c d).trans (h.2.1 k a b c d), fun j a b c => (g.2.2 j a b c).trans (h.2.2 j a b c)⟩
theorem FrM.RO {σ τ : AS} (h : FrM σ τ) (hR : RO σ) : RO τ := by
  intro k j a e
  have := hR k j a e
  rw [show τ.2.2 = σ.2.2 by rw [h.1]]
  exact this
theorem FrM.TX {σ τ : AS} {tx b : Nat} {t : List Nat} (h : FrM σ τ) (hX : TX σ tx b t) : TX τ tx b t := by
  obtain ⟨a1, a2, a3, a4, a5⟩ := hX
  refine ⟨by rw [show τ.2.2 = σ.2.2 by rw [h.1]]; exact a1, a2, by rw [h.2.2 8 (by decide) (by decide) (by decide)]; exact a3, by rw [h.2.2 9 (by decide) (by decide) (by decide)]; exact a4, fun i c hc => ?_⟩
  rw [h.2.1 tx (by rcases a2 with ⟨e, -⟩ | ⟨e, -⟩ <;> omega) (by rcases a2 with ⟨e, -⟩ | ⟨e, -⟩ <;> omega) (by rcases a2 with ⟨e, -⟩ | ⟨e, -⟩ <;> omega) (by rcases a2 with ⟨e, -⟩ | ⟨e, -⟩ <;> omega)]
  exact a5 i c hc
theorem FrM.fd {σ τ : AS} {j : Nat} {v : Int32} (h : FrM σ τ) (hj : j = 28 ∨ j = 29 ∨ j = 31) : FrM σ (sI τ 111 (upd (τ.1 111) j v)) := ⟨h.1, fun k a b c d => by rw [sI_ne _ _ _ _ a]; exact h.2.1 k a b c d, fun i a b c => by rw [sI_same, upd_ne _ _ _ _ (by omega)]; exact h.2.2 i a b c⟩
theorem FrM.sI {σ τ : AS} {k : Nat} {r : Nat → Int32} (h : FrM σ τ) (hk : k = 117 ∨ k = 119 ∨ k = 121) : FrM σ (sI τ k r) := ⟨h.1, fun i a b c d => by rw [sI_ne _ _ _ _ (by omega)]; exact h.2.1 i a b c d, fun i a b c => by rw [sI_ne _ _ _ _ (by omega)]; exact h.2.2 i a b c⟩
theorem msa_fset {τ : AS} {a j : Nat} {f : Int} {v : Int32} (h1 : j ≠ 10) (h2 : j ≠ 11) : sI (msa τ a f) 111 (upd ((msa τ a f).1 111) j v) = msa (sI τ 111 (upd (τ.1 111) j v)) a f := by
  unfold msa
  rw [sI_same, sI_sI, sI_same, sI_sI, upd_comm _ 11 j _ _ (fun q => h2 q.symm), upd_comm _ 10 j _ _ (fun q => h1 q.symm)]
theorem TX_fd {τ : AS} {tx b j : Nat} {t : List Nat} {v : Int32} (hX : TX τ tx b t) (h1 : j ≠ 8) (h2 : j ≠ 9) : TX (sI τ 111 (upd (τ.1 111) j v)) tx b t := by
  obtain ⟨a1, a2, a3, a4, a5⟩ := hX
  refine ⟨a1, a2, by rw [sI_same, upd_ne _ _ _ _ (fun q => h1 q.symm)]; exact a3, by rw [sI_same, upd_ne _ _ _ _ (fun q => h2 q.symm)]; exact a4, fun i c hc => ?_⟩
  rw [sI_ne _ _ _ _ (by rcases a2 with ⟨e, -⟩ | ⟨e, -⟩ <;> omega)]
  exact a5 i c hc
theorem m64_X12_readClause {l : Launch} {D : va_G} {cA ad : Nat → Nat} {d : Nat} {τ : AS} {K : Option Value → AS → Prop} {t : List Nat} {a tx b : Nat} {s : PS} (ht : TOK t) (hR : RO τ) (hX : TX τ tx b t) (hs : PSM τ s) (hp : POK s) (ha : a ≤ t.length) (hK1 : ∀ q s' τ', FrM τ τ' → clS t a s = (q, false, s') → K none (msa τ' q q)) (hK2 : ∀ q s' τ', FrM τ τ' → clS t a s = (q, true, s') → q ≤ t.length → sk t q = q → PSM τ' s' → POK s' → K none (msa τ' q (-1))) (hd : (ch t (sk t a) = 115 ∧ s.1 < 1) ∨ (ch t (sk t a) = 112 ∧ s.2.1 < 7) ∨ (ch t (sk t a) = 105 ∧ s.2.2.1 < 9)) : Go l D cA ad (d + 6) mX12_readClause 64 [.ref 111, .int (iI (ch t (sk t a))), .int (iI 1)] [] (msa τ (sk t a) (-1)) K := by
  have ht1 := ht.1
  have hch := ch_lt ht (sk t a)
  have hp0 := hp.1
  have hpP := hp.2.1
  have hpQ := hp.2.2.1
  have hsk := sk_le ha
  rcases hd with ⟨h, h2⟩ | ⟨h, h2⟩ | ⟨h, h2⟩
  · refine go_aload_n dX12_readClause_64 rfl ?_
    refine go_dup dX12_readClause_65 rfl ?_
    refine go_getI fX12_119 dX12_readClause_66 rfl ?_
    refine go_iconst (v := iI 1) dX12_readClause_69 (by decide) ?_
    refine go_iadd dX12_readClause_70 ?_
    refine go_putI fX12_119 rfl dX12_readClause_71 rfl rfl rfl ?_
    rw [msa_inc]
    have hp1 : sk t a + 1 ≤ t.length := by
      rcases Nat.lt_or_ge (sk t a) t.length with q | q
      · exact q
      · have := ch_out q; omega
    refine go_iload_n dX12_readClause_74 rfl ?_
    refine go_bipush (v := iI 115) dX12_readClause_75 (by decide) ?_
    refine go_icmp_ne (tgt := 100) dX12_readClause_77 (by decide) (fun h77 => ?_) (fun h77 => ?_)
    · exfalso
      rw [iI_eq (by omega)] at h77
      omega
    · refine go_aload_n dX12_readClause_80 rfl ?_
      refine go_iconst (v := iI 1) dX12_readClause_81 (by decide) ?_
      refine go_putI fX12_242 rfl dX12_readClause_82 rfl rfl rfl ?_
      rw [msa_fset (by decide) (by decide)]
      refine go_aload_n dX12_readClause_85 rfl ?_
      refine go_iload_n dX12_readClause_86 rfl ?_
      refine go_aload_n dX12_readClause_87 rfl ?_
      refine go_getR fX12_40 dX12_readClause_88 rfl (hR _ _ _ rfl) ?_
      refine go_iconst (v := iI 0) dX12_readClause_91 (by decide) ?_
      refine go_ldcS (i := 8) (by decide) rfl dX12_readClause_92 ?_
      rw [h]
      refine go_callV (as := [_, _, _, _]) wX12_253 dX12_readClause_94 rfl rfl rfl rfl (Nat.le_of_ble_eq_true rfl) (ct_X12_readItems (κ := 0) (rw := 117) (o := 0) (nr := 3) (by decide) ht hR (TX_fd hX (by decide) (by decide)) rfl (by decide) (by decide) (by decide) (by decide) (by decide) hp1 (fun q r row hq hf => ?_) (fun q row r hq hle hkk hr hf => ?_))
      · refine go_goto (tgt := 170) dX12_readClause_97 (by decide) ?_
        refine go_vret rfl dX12_readClause_170 ?_
        exact hK1 _ _ _ ((FrM.rf.fd (by decide)).sI (by decide)) (clS_s h (by omega) hq)
      · refine go_goto (tgt := 170) dX12_readClause_97 (by decide) ?_
        refine go_vret rfl dX12_readClause_170 ?_
        refine hK2 _ _ _ ((FrM.rf.fd (by decide)).sI (by decide)) (clS_s h (by omega) hq) hle hkk ⟨?_, ?_, ?_, fun j hj => ?_, fun i j hi hj => ?_, fun i j hi hj => ?_⟩ ⟨by show s.1 + 1 ≤ 1; omega, hp.2.1, hp.2.2.1, fun q => absurd q (Nat.succ_ne_zero _)⟩
        · rw [sI_ne _ _ _ _ (by decide), sI_same, upd_same]; congr 1; dsimp only; omega
        · rw [sI_ne _ _ _ _ (by decide), sI_same, upd_ne _ _ _ _ (by decide)]; exact hs.2.1
        · rw [sI_ne _ _ _ _ (by decide), sI_same, upd_ne _ _ _ _ (by decide)]; exact hs.2.2.1
        · rw [sI_same]; have := hr j hj; rw [Nat.zero_add] at this; exact this
        · dsimp only at hi ⊢
          rw [sI_ne _ _ _ _ (by decide), sI_ne _ _ _ _ (by decide)]; exact hs.2.2.2.2.1 i j hi hj
        · dsimp only at hi ⊢
          rw [sI_ne _ _ _ _ (by decide), sI_ne _ _ _ _ (by decide)]; exact hs.2.2.2.2.2 i j hi hj
  · refine go_aload_n dX12_readClause_64 rfl ?_
    refine go_dup dX12_readClause_65 rfl ?_
    refine go_getI fX12_119 dX12_readClause_66 rfl ?_
    refine go_iconst (v := iI 1) dX12_readClause_69 (by decide) ?_
    refine go_iadd dX12_readClause_70 ?_
    refine go_putI fX12_119 rfl dX12_readClause_71 rfl rfl rfl ?_
    rw [msa_inc]
    have hp1 : sk t a + 1 ≤ t.length := by
      rcases Nat.lt_or_ge (sk t a) t.length with q | q
      · exact q
      · have := ch_out q; omega
    refine go_iload_n dX12_readClause_74 rfl ?_
    refine go_bipush (v := iI 115) dX12_readClause_75 (by decide) ?_
    refine go_icmp_ne (tgt := 100) dX12_readClause_77 (by decide) (fun h77 => ?_) (fun h77 => ?_)
    · refine go_iload_n dX12_readClause_100 rfl ?_
      refine go_bipush (v := iI 112) dX12_readClause_101 (by decide) ?_
      refine go_icmp_ne (tgt := 140) dX12_readClause_103 (by decide) (fun h103 => ?_) (fun h103 => ?_)
      · exfalso
        rw [iI_eq (by omega)] at h103
        omega
      · refine go_aload_n dX12_readClause_106 rfl ?_
        refine go_dup dX12_readClause_107 rfl ?_
        refine go_getI fX12_245 dX12_readClause_108 rfl ?_
        refine go_iconst (v := iI 1) dX12_readClause_111 (by decide) ?_
        refine go_iadd dX12_readClause_112 ?_
        refine go_putI fX12_245 rfl dX12_readClause_113 rfl rfl rfl ?_
        rw [msa_fset (by decide) (by decide), msa_fd _ _ 28 _ (by decide) (by decide), hs.2.1, iI_add, show ((s.2.1 : Int) + 1) = ((s.2.1 + 1 : Nat) : Int) by omega]
        have e5 : iI 9 * ((msa (sI τ 111 (upd (τ.1 111) 28 (iI ((s.2.1 + 1 : Nat) : Int)))) (sk t a + 1) (-1)).1 111 28 - iI 1) = iI ((9 * s.2.1 : Nat) : Int) := by
          rw [msa_fd _ _ 28 _ (by decide) (by decide), sI_same, upd_same, iI_sub, iI_mul]
          congr 1
          omega
        refine go_aload_n dX12_readClause_116 rfl ?_
        refine go_iload_n dX12_readClause_117 rfl ?_
        refine go_aload_n dX12_readClause_118 rfl ?_
        refine go_getR fX12_46 dX12_readClause_119 rfl (hR _ _ _ rfl) ?_
        refine go_bipush (v := iI 9) dX12_readClause_122 (by decide) ?_
        refine go_aload_n dX12_readClause_124 rfl ?_
        refine go_getI fX12_245 dX12_readClause_125 rfl ?_
        refine go_iconst (v := iI 1) dX12_readClause_128 (by decide) ?_
        refine go_isub dX12_readClause_129 ?_
        refine go_imul dX12_readClause_130 ?_
        rw [e5]
        refine go_ldcSW (i := 9) (by decide) rfl dX12_readClause_131 ?_
        rw [h]
        refine go_callV (as := [_, _, _, _]) wX12_253 dX12_readClause_134 rfl rfl rfl rfl (Nat.le_of_ble_eq_true rfl) (ct_X12_readItems (κ := 1) (rw := 119) (o := 9 * s.2.1) (nr := 63) (by decide) ht hR (TX_fd hX (by decide) (by decide)) rfl (by show 9 * s.2.1 + 9 ≤ 63; omega) (by decide) (by decide) (by decide) (by decide) hp1 (fun q r row hq hf => ?_) (fun q row r hq hle hkk hr hf => ?_))
        · refine go_goto (tgt := 170) dX12_readClause_137 (by decide) ?_
          refine go_vret rfl dX12_readClause_170 ?_
          exact hK1 _ _ _ ((FrM.rf.fd (by decide)).sI (by decide)) (clS_p h (by omega) hq)
        · refine go_goto (tgt := 170) dX12_readClause_137 (by decide) ?_
          refine go_vret rfl dX12_readClause_170 ?_
          refine hK2 _ _ _ ((FrM.rf.fd (by decide)).sI (by decide)) (clS_p h (by omega) hq) hle hkk ⟨?_, ?_, ?_, fun j hj => ?_, fun i j hi hj => ?_, fun i j hi hj => ?_⟩ ⟨hp.1, by show s.2.1 + 1 ≤ 7; omega, hp.2.2.1, hp.2.2.2⟩
          · rw [sI_ne _ _ _ _ (by decide), sI_same, upd_ne _ _ _ _ (by decide)]; exact hs.1
          · rw [sI_ne _ _ _ _ (by decide), sI_same, upd_same]
          · rw [sI_ne _ _ _ _ (by decide), sI_same, upd_ne _ _ _ _ (by decide)]; exact hs.2.2.1
          · rw [sI_ne _ _ _ _ (by decide), sI_ne _ _ _ _ (by decide)]; exact hs.2.2.2.1 j hj
          · dsimp only at hi ⊢
            rw [sI_same]
            by_cases e : i = s.2.1
            · subst e; rw [if_pos rfl]; exact hr j hj
            · rw [if_neg e, hf _ (by left; omega), sI_ne _ _ _ _ (by decide)]; exact hs.2.2.2.2.1 i j (by omega) hj
          · dsimp only at hi ⊢
            rw [sI_ne _ _ _ _ (by decide), sI_ne _ _ _ _ (by decide)]; exact hs.2.2.2.2.2 i j hi hj
    · exfalso
      rw [iI_eq (by omega)] at h77
      omega
  · refine go_aload_n dX12_readClause_64 rfl ?_
    refine go_dup dX12_readClause_65 rfl ?_
    refine go_getI fX12_119 dX12_readClause_66 rfl ?_
    refine go_iconst (v := iI 1) dX12_readClause_69 (by decide) ?_
    refine go_iadd dX12_readClause_70 ?_
    refine go_putI fX12_119 rfl dX12_readClause_71 rfl rfl rfl ?_
    rw [msa_inc]
    have hp1 : sk t a + 1 ≤ t.length := by
      rcases Nat.lt_or_ge (sk t a) t.length with q | q
      · exact q
      · have := ch_out q; omega
    refine go_iload_n dX12_readClause_74 rfl ?_
    refine go_bipush (v := iI 115) dX12_readClause_75 (by decide) ?_
    refine go_icmp_ne (tgt := 100) dX12_readClause_77 (by decide) (fun h77 => ?_) (fun h77 => ?_)
    · refine go_iload_n dX12_readClause_100 rfl ?_
      refine go_bipush (v := iI 112) dX12_readClause_101 (by decide) ?_
      refine go_icmp_ne (tgt := 140) dX12_readClause_103 (by decide) (fun h103 => ?_) (fun h103 => ?_)
      · refine go_aload_n dX12_readClause_140 rfl ?_
        refine go_dup dX12_readClause_141 rfl ?_
        refine go_getI fX12_248 dX12_readClause_142 rfl ?_
        refine go_iconst (v := iI 1) dX12_readClause_145 (by decide) ?_
        refine go_iadd dX12_readClause_146 ?_
        refine go_putI fX12_248 rfl dX12_readClause_147 rfl rfl rfl ?_
        rw [msa_fset (by decide) (by decide), msa_fd _ _ 29 _ (by decide) (by decide), hs.2.2.1, iI_add, show ((s.2.2.1 : Int) + 1) = ((s.2.2.1 + 1 : Nat) : Int) by omega]
        have e5 : iI 5 * ((msa (sI τ 111 (upd (τ.1 111) 29 (iI ((s.2.2.1 + 1 : Nat) : Int)))) (sk t a + 1) (-1)).1 111 29 - iI 1) = iI ((5 * s.2.2.1 : Nat) : Int) := by
          rw [msa_fd _ _ 29 _ (by decide) (by decide), sI_same, upd_same, iI_sub, iI_mul]
          congr 1
          omega
        refine go_aload_n dX12_readClause_150 rfl ?_
        refine go_iload_n dX12_readClause_151 rfl ?_
        refine go_aload_n dX12_readClause_152 rfl ?_
        refine go_getR fX12_52 dX12_readClause_153 rfl (hR _ _ _ rfl) ?_
        refine go_iconst (v := iI 5) dX12_readClause_156 (by decide) ?_
        refine go_aload_n dX12_readClause_157 rfl ?_
        refine go_getI fX12_248 dX12_readClause_158 rfl ?_
        refine go_iconst (v := iI 1) dX12_readClause_161 (by decide) ?_
        refine go_isub dX12_readClause_162 ?_
        refine go_imul dX12_readClause_163 ?_
        rw [e5]
        refine go_ldcSW (i := 10) (by decide) rfl dX12_readClause_164 ?_
        rw [h]
        refine go_callV (as := [_, _, _, _]) wX12_253 dX12_readClause_167 rfl rfl rfl rfl (Nat.le_of_ble_eq_true rfl) (ct_X12_readItems (κ := 2) (rw := 121) (o := 5 * s.2.2.1) (nr := 45) (by decide) ht hR (TX_fd hX (by decide) (by decide)) rfl (by show 5 * s.2.2.1 + 5 ≤ 45; omega) (by decide) (by decide) (by decide) (by decide) hp1 (fun q r row hq hf => ?_) (fun q row r hq hle hkk hr hf => ?_))
        · refine go_vret rfl dX12_readClause_170 ?_
          exact hK1 _ _ _ ((FrM.rf.fd (by decide)).sI (by decide)) (clS_i h (by omega) hq)
        · refine go_vret rfl dX12_readClause_170 ?_
          refine hK2 _ _ _ ((FrM.rf.fd (by decide)).sI (by decide)) (clS_i h (by omega) hq) hle hkk ⟨?_, ?_, ?_, fun j hj => ?_, fun i j hi hj => ?_, fun i j hi hj => ?_⟩ ⟨hp.1, hp.2.1, by show s.2.2.1 + 1 ≤ 9; omega, hp.2.2.2⟩
          · rw [sI_ne _ _ _ _ (by decide), sI_same, upd_ne _ _ _ _ (by decide)]; exact hs.1
          · rw [sI_ne _ _ _ _ (by decide), sI_same, upd_ne _ _ _ _ (by decide)]; exact hs.2.1
          · rw [sI_ne _ _ _ _ (by decide), sI_same, upd_same]
          · rw [sI_ne _ _ _ _ (by decide), sI_ne _ _ _ _ (by decide)]; exact hs.2.2.2.1 j hj
          · dsimp only at hi ⊢
            rw [sI_ne _ _ _ _ (by decide), sI_ne _ _ _ _ (by decide)]; exact hs.2.2.2.2.1 i j hi hj
          · dsimp only at hi ⊢
            rw [sI_same]
            by_cases e : i = s.2.2.1
            · subst e; rw [if_pos rfl]; exact hr j hj
            · rw [if_neg e, hf _ (by left; omega), sI_ne _ _ _ _ (by decide)]; exact hs.2.2.2.2.2 i j (by omega) hj
      · exfalso
        rw [iI_eq (by omega)] at h103
        omega
    · exfalso
      rw [iI_eq (by omega)] at h77
      omega

theorem ct_X12_readClause {l : Launch} {D : va_G} {cA ad : Nat → Nat} {d : Nat} {τ : AS} {K : Option Value → AS → Prop} {t : List Nat} {a tx b : Nat} {s : PS} (ht : TOK t) (hR : RO τ) (hX : TX τ tx b t) (hs : PSM τ s) (hp : POK s) (ha : a ≤ t.length) (hK1 : ∀ q s' τ', FrM τ τ' → clS t a s = (q, false, s') → K none (msa τ' q q)) (hK2 : ∀ q s' τ', FrM τ τ' → clS t a s = (q, true, s') → q ≤ t.length → sk t q = q → PSM τ' s' → POK s' → K none (msa τ' q (-1))) : Call l D cA ad (d + 6) mX12_readClause [.ref 111] (msa τ a (-1)) K := by
  have ht1 := ht.1
  have hch := ch_lt ht (sk t a)
  have hp0 := hp.1
  have hpP := hp.2.1
  have hpQ := hp.2.2.1
  have hsk := sk_le ha
  refine call_go (by decide) (Nat.le_of_ble_eq_true rfl) (show Go l D cA ad (d + 6) mX12_readClause 0 [.ref 111, .null, .null] [] (msa τ a (-1)) K from ?_)
  refine go_aload_n dX12_readClause_0 rfl ?_
  refine go_callV (as := []) wX12_138 dX12_readClause_1 rfl rfl rfl rfl (Nat.le_of_ble_eq_true rfl) (ct_X12_look ht hX ha ?_)
  refine go_istore_n dX12_readClause_4 (Nat.le_of_ble_eq_true rfl) rfl ?_
  refine go_iload_n dX12_readClause_5 rfl ?_
  refine go_bipush (v := iI 115) dX12_readClause_6 (by decide) ?_
  refine go_icmp_ne (tgt := 18) dX12_readClause_8 (by decide) (fun h8 => ?_) (fun h8 => ?_)
  · rw [iI_eq (by omega)] at h8
    refine go_iload_n dX12_readClause_18 rfl ?_
    refine go_bipush (v := iI 112) dX12_readClause_19 (by decide) ?_
    refine go_icmp_ne (tgt := 33) dX12_readClause_21 (by decide) (fun h21 => ?_) (fun h21 => ?_)
    · rw [iI_eq (by omega)] at h21
      refine go_iload_n dX12_readClause_33 rfl ?_
      refine go_bipush (v := iI 105) dX12_readClause_34 (by decide) ?_
      refine go_icmp_ne (tgt := 52) dX12_readClause_36 (by decide) (fun h36 => ?_) (fun h36 => ?_)
      · rw [iI_eq (by omega)] at h36
        refine go_iconst (v := iI 0) dX12_readClause_52 (by decide) ?_
        refine go_istore_n dX12_readClause_53 (Nat.le_of_ble_eq_true rfl) rfl ?_
        refine go_iload_n dX12_readClause_54 rfl ?_
        refine go_if_ne (tgt := 64) dX12_readClause_55 (by decide) (fun h55 => ?_) (fun h55 => ?_)
        · exact absurd h55 (by decide)
        · refine go_aload_n dX12_readClause_58 rfl ?_
          refine go_callV (as := []) wX12_134 dX12_readClause_59 rfl rfl rfl rfl (Nat.le_of_ble_eq_true rfl) (ct_X12_fails ?_)
          refine go_pop dX12_readClause_62 rfl ?_
          refine go_vret rfl dX12_readClause_63 ?_
          exact hK1 _ _ _ FrM.rf (clS_0 (by omega) (by omega) (by omega))
      · rw [iI_eq (by omega)] at h36
        refine go_aload_n dX12_readClause_39 rfl ?_
        refine go_getI fX12_248 dX12_readClause_40 rfl ?_
        refine go_bipush (v := iI 9) dX12_readClause_43 (by decide) ?_
        refine go_icmp_ge (tgt := 52) dX12_readClause_45 (by decide) (fun h45 => ?_) (fun h45 => ?_)
        · rw [msa_fd _ _ 29 _ (by decide) (by decide), hs.2.2.1, iI_le (by omega)] at h45
          refine go_iconst (v := iI 0) dX12_readClause_52 (by decide) ?_
          refine go_istore_n dX12_readClause_53 (Nat.le_of_ble_eq_true rfl) rfl ?_
          refine go_iload_n dX12_readClause_54 rfl ?_
          refine go_if_ne (tgt := 64) dX12_readClause_55 (by decide) (fun h55 => ?_) (fun h55 => ?_)
          · exact absurd h55 (by decide)
          · refine go_aload_n dX12_readClause_58 rfl ?_
            refine go_callV (as := []) wX12_134 dX12_readClause_59 rfl rfl rfl rfl (Nat.le_of_ble_eq_true rfl) (ct_X12_fails ?_)
            refine go_pop dX12_readClause_62 rfl ?_
            refine go_vret rfl dX12_readClause_63 ?_
            exact hK1 _ _ _ FrM.rf (clS_0 (by omega) (by omega) (by omega))
        · rw [msa_fd _ _ 29 _ (by decide) (by decide), hs.2.2.1, iI_le (by omega)] at h45
          refine go_iconst (v := iI 1) dX12_readClause_48 (by decide) ?_
          refine go_goto (tgt := 53) dX12_readClause_49 (by decide) ?_
          refine go_istore_n dX12_readClause_53 (Nat.le_of_ble_eq_true rfl) rfl ?_
          refine go_iload_n dX12_readClause_54 rfl ?_
          refine go_if_ne (tgt := 64) dX12_readClause_55 (by decide) (fun h55 => ?_) (fun h55 => ?_)
          · simp only [List.set]
            exact m64_X12_readClause ht hR hX hs hp ha hK1 hK2 (by omega)
          · exact absurd h55 (by decide)
    · rw [iI_eq (by omega)] at h21
      refine go_aload_n dX12_readClause_24 rfl ?_
      refine go_getI fX12_245 dX12_readClause_25 rfl ?_
      refine go_bipush (v := iI 7) dX12_readClause_28 (by decide) ?_
      refine go_icmp_lt (tgt := 48) dX12_readClause_30 (by decide) (fun h30 => ?_) (fun h30 => ?_)
      · rw [msa_fd _ _ 28 _ (by decide) (by decide), hs.2.1, iI_lt (by omega)] at h30
        refine go_iconst (v := iI 1) dX12_readClause_48 (by decide) ?_
        refine go_goto (tgt := 53) dX12_readClause_49 (by decide) ?_
        refine go_istore_n dX12_readClause_53 (Nat.le_of_ble_eq_true rfl) rfl ?_
        refine go_iload_n dX12_readClause_54 rfl ?_
        refine go_if_ne (tgt := 64) dX12_readClause_55 (by decide) (fun h55 => ?_) (fun h55 => ?_)
        · simp only [List.set]
          exact m64_X12_readClause ht hR hX hs hp ha hK1 hK2 (by omega)
        · exact absurd h55 (by decide)
      · rw [msa_fd _ _ 28 _ (by decide) (by decide), hs.2.1, iI_lt (by omega)] at h30
        refine go_iload_n dX12_readClause_33 rfl ?_
        refine go_bipush (v := iI 105) dX12_readClause_34 (by decide) ?_
        refine go_icmp_ne (tgt := 52) dX12_readClause_36 (by decide) (fun h36 => ?_) (fun h36 => ?_)
        · rw [iI_eq (by omega)] at h36
          refine go_iconst (v := iI 0) dX12_readClause_52 (by decide) ?_
          refine go_istore_n dX12_readClause_53 (Nat.le_of_ble_eq_true rfl) rfl ?_
          refine go_iload_n dX12_readClause_54 rfl ?_
          refine go_if_ne (tgt := 64) dX12_readClause_55 (by decide) (fun h55 => ?_) (fun h55 => ?_)
          · exact absurd h55 (by decide)
          · refine go_aload_n dX12_readClause_58 rfl ?_
            refine go_callV (as := []) wX12_134 dX12_readClause_59 rfl rfl rfl rfl (Nat.le_of_ble_eq_true rfl) (ct_X12_fails ?_)
            refine go_pop dX12_readClause_62 rfl ?_
            refine go_vret rfl dX12_readClause_63 ?_
            exact hK1 _ _ _ FrM.rf (clS_0 (by omega) (by omega) (by omega))
        · rw [iI_eq (by omega)] at h36
          refine go_aload_n dX12_readClause_39 rfl ?_
          refine go_getI fX12_248 dX12_readClause_40 rfl ?_
          refine go_bipush (v := iI 9) dX12_readClause_43 (by decide) ?_
          refine go_icmp_ge (tgt := 52) dX12_readClause_45 (by decide) (fun h45 => ?_) (fun h45 => ?_)
          · rw [msa_fd _ _ 29 _ (by decide) (by decide), hs.2.2.1, iI_le (by omega)] at h45
            refine go_iconst (v := iI 0) dX12_readClause_52 (by decide) ?_
            refine go_istore_n dX12_readClause_53 (Nat.le_of_ble_eq_true rfl) rfl ?_
            refine go_iload_n dX12_readClause_54 rfl ?_
            refine go_if_ne (tgt := 64) dX12_readClause_55 (by decide) (fun h55 => ?_) (fun h55 => ?_)
            · exact absurd h55 (by decide)
            · refine go_aload_n dX12_readClause_58 rfl ?_
              refine go_callV (as := []) wX12_134 dX12_readClause_59 rfl rfl rfl rfl (Nat.le_of_ble_eq_true rfl) (ct_X12_fails ?_)
              refine go_pop dX12_readClause_62 rfl ?_
              refine go_vret rfl dX12_readClause_63 ?_
              exact hK1 _ _ _ FrM.rf (clS_0 (by omega) (by omega) (by omega))
          · rw [msa_fd _ _ 29 _ (by decide) (by decide), hs.2.2.1, iI_le (by omega)] at h45
            refine go_iconst (v := iI 1) dX12_readClause_48 (by decide) ?_
            refine go_goto (tgt := 53) dX12_readClause_49 (by decide) ?_
            refine go_istore_n dX12_readClause_53 (Nat.le_of_ble_eq_true rfl) rfl ?_
            refine go_iload_n dX12_readClause_54 rfl ?_
            refine go_if_ne (tgt := 64) dX12_readClause_55 (by decide) (fun h55 => ?_) (fun h55 => ?_)
            · simp only [List.set]
              exact m64_X12_readClause ht hR hX hs hp ha hK1 hK2 (by omega)
            · exact absurd h55 (by decide)
  · rw [iI_eq (by omega)] at h8
    refine go_aload_n dX12_readClause_11 rfl ?_
    refine go_getI fX12_242 dX12_readClause_12 rfl ?_
    refine go_if_eq (tgt := 48) dX12_readClause_15 (by decide) (fun h15 => ?_) (fun h15 => ?_)
    · rw [msa_fd _ _ 31 _ (by decide) (by decide), hs.1, iI_eq0 (by omega)] at h15
      refine go_iconst (v := iI 1) dX12_readClause_48 (by decide) ?_
      refine go_goto (tgt := 53) dX12_readClause_49 (by decide) ?_
      refine go_istore_n dX12_readClause_53 (Nat.le_of_ble_eq_true rfl) rfl ?_
      refine go_iload_n dX12_readClause_54 rfl ?_
      refine go_if_ne (tgt := 64) dX12_readClause_55 (by decide) (fun h55 => ?_) (fun h55 => ?_)
      · simp only [List.set]
        exact m64_X12_readClause ht hR hX hs hp ha hK1 hK2 (by omega)
      · exact absurd h55 (by decide)
    · rw [msa_fd _ _ 31 _ (by decide) (by decide), hs.1, iI_eq0 (by omega)] at h15
      refine go_iload_n dX12_readClause_18 rfl ?_
      refine go_bipush (v := iI 112) dX12_readClause_19 (by decide) ?_
      refine go_icmp_ne (tgt := 33) dX12_readClause_21 (by decide) (fun h21 => ?_) (fun h21 => ?_)
      · rw [iI_eq (by omega)] at h21
        refine go_iload_n dX12_readClause_33 rfl ?_
        refine go_bipush (v := iI 105) dX12_readClause_34 (by decide) ?_
        refine go_icmp_ne (tgt := 52) dX12_readClause_36 (by decide) (fun h36 => ?_) (fun h36 => ?_)
        · rw [iI_eq (by omega)] at h36
          refine go_iconst (v := iI 0) dX12_readClause_52 (by decide) ?_
          refine go_istore_n dX12_readClause_53 (Nat.le_of_ble_eq_true rfl) rfl ?_
          refine go_iload_n dX12_readClause_54 rfl ?_
          refine go_if_ne (tgt := 64) dX12_readClause_55 (by decide) (fun h55 => ?_) (fun h55 => ?_)
          · exact absurd h55 (by decide)
          · refine go_aload_n dX12_readClause_58 rfl ?_
            refine go_callV (as := []) wX12_134 dX12_readClause_59 rfl rfl rfl rfl (Nat.le_of_ble_eq_true rfl) (ct_X12_fails ?_)
            refine go_pop dX12_readClause_62 rfl ?_
            refine go_vret rfl dX12_readClause_63 ?_
            exact hK1 _ _ _ FrM.rf (clS_0 (by omega) (by omega) (by omega))
        · rw [iI_eq (by omega)] at h36
          refine go_aload_n dX12_readClause_39 rfl ?_
          refine go_getI fX12_248 dX12_readClause_40 rfl ?_
          refine go_bipush (v := iI 9) dX12_readClause_43 (by decide) ?_
          refine go_icmp_ge (tgt := 52) dX12_readClause_45 (by decide) (fun h45 => ?_) (fun h45 => ?_)
          · rw [msa_fd _ _ 29 _ (by decide) (by decide), hs.2.2.1, iI_le (by omega)] at h45
            refine go_iconst (v := iI 0) dX12_readClause_52 (by decide) ?_
            refine go_istore_n dX12_readClause_53 (Nat.le_of_ble_eq_true rfl) rfl ?_
            refine go_iload_n dX12_readClause_54 rfl ?_
            refine go_if_ne (tgt := 64) dX12_readClause_55 (by decide) (fun h55 => ?_) (fun h55 => ?_)
            · exact absurd h55 (by decide)
            · refine go_aload_n dX12_readClause_58 rfl ?_
              refine go_callV (as := []) wX12_134 dX12_readClause_59 rfl rfl rfl rfl (Nat.le_of_ble_eq_true rfl) (ct_X12_fails ?_)
              refine go_pop dX12_readClause_62 rfl ?_
              refine go_vret rfl dX12_readClause_63 ?_
              exact hK1 _ _ _ FrM.rf (clS_0 (by omega) (by omega) (by omega))
          · rw [msa_fd _ _ 29 _ (by decide) (by decide), hs.2.2.1, iI_le (by omega)] at h45
            refine go_iconst (v := iI 1) dX12_readClause_48 (by decide) ?_
            refine go_goto (tgt := 53) dX12_readClause_49 (by decide) ?_
            refine go_istore_n dX12_readClause_53 (Nat.le_of_ble_eq_true rfl) rfl ?_
            refine go_iload_n dX12_readClause_54 rfl ?_
            refine go_if_ne (tgt := 64) dX12_readClause_55 (by decide) (fun h55 => ?_) (fun h55 => ?_)
            · simp only [List.set]
              exact m64_X12_readClause ht hR hX hs hp ha hK1 hK2 (by omega)
            · exact absurd h55 (by decide)
      · rw [iI_eq (by omega)] at h21
        refine go_aload_n dX12_readClause_24 rfl ?_
        refine go_getI fX12_245 dX12_readClause_25 rfl ?_
        refine go_bipush (v := iI 7) dX12_readClause_28 (by decide) ?_
        refine go_icmp_lt (tgt := 48) dX12_readClause_30 (by decide) (fun h30 => ?_) (fun h30 => ?_)
        · rw [msa_fd _ _ 28 _ (by decide) (by decide), hs.2.1, iI_lt (by omega)] at h30
          refine go_iconst (v := iI 1) dX12_readClause_48 (by decide) ?_
          refine go_goto (tgt := 53) dX12_readClause_49 (by decide) ?_
          refine go_istore_n dX12_readClause_53 (Nat.le_of_ble_eq_true rfl) rfl ?_
          refine go_iload_n dX12_readClause_54 rfl ?_
          refine go_if_ne (tgt := 64) dX12_readClause_55 (by decide) (fun h55 => ?_) (fun h55 => ?_)
          · simp only [List.set]
            exact m64_X12_readClause ht hR hX hs hp ha hK1 hK2 (by omega)
          · exact absurd h55 (by decide)
        · rw [msa_fd _ _ 28 _ (by decide) (by decide), hs.2.1, iI_lt (by omega)] at h30
          refine go_iload_n dX12_readClause_33 rfl ?_
          refine go_bipush (v := iI 105) dX12_readClause_34 (by decide) ?_
          refine go_icmp_ne (tgt := 52) dX12_readClause_36 (by decide) (fun h36 => ?_) (fun h36 => ?_)
          · rw [iI_eq (by omega)] at h36
            refine go_iconst (v := iI 0) dX12_readClause_52 (by decide) ?_
            refine go_istore_n dX12_readClause_53 (Nat.le_of_ble_eq_true rfl) rfl ?_
            refine go_iload_n dX12_readClause_54 rfl ?_
            refine go_if_ne (tgt := 64) dX12_readClause_55 (by decide) (fun h55 => ?_) (fun h55 => ?_)
            · exact absurd h55 (by decide)
            · refine go_aload_n dX12_readClause_58 rfl ?_
              refine go_callV (as := []) wX12_134 dX12_readClause_59 rfl rfl rfl rfl (Nat.le_of_ble_eq_true rfl) (ct_X12_fails ?_)
              refine go_pop dX12_readClause_62 rfl ?_
              refine go_vret rfl dX12_readClause_63 ?_
              exact hK1 _ _ _ FrM.rf (clS_0 (by omega) (by omega) (by omega))
          · rw [iI_eq (by omega)] at h36
            refine go_aload_n dX12_readClause_39 rfl ?_
            refine go_getI fX12_248 dX12_readClause_40 rfl ?_
            refine go_bipush (v := iI 9) dX12_readClause_43 (by decide) ?_
            refine go_icmp_ge (tgt := 52) dX12_readClause_45 (by decide) (fun h45 => ?_) (fun h45 => ?_)
            · rw [msa_fd _ _ 29 _ (by decide) (by decide), hs.2.2.1, iI_le (by omega)] at h45
              refine go_iconst (v := iI 0) dX12_readClause_52 (by decide) ?_
              refine go_istore_n dX12_readClause_53 (Nat.le_of_ble_eq_true rfl) rfl ?_
              refine go_iload_n dX12_readClause_54 rfl ?_
              refine go_if_ne (tgt := 64) dX12_readClause_55 (by decide) (fun h55 => ?_) (fun h55 => ?_)
              · exact absurd h55 (by decide)
              · refine go_aload_n dX12_readClause_58 rfl ?_
                refine go_callV (as := []) wX12_134 dX12_readClause_59 rfl rfl rfl rfl (Nat.le_of_ble_eq_true rfl) (ct_X12_fails ?_)
                refine go_pop dX12_readClause_62 rfl ?_
                refine go_vret rfl dX12_readClause_63 ?_
                exact hK1 _ _ _ FrM.rf (clS_0 (by omega) (by omega) (by omega))
            · rw [msa_fd _ _ 29 _ (by decide) (by decide), hs.2.2.1, iI_le (by omega)] at h45
              refine go_iconst (v := iI 1) dX12_readClause_48 (by decide) ?_
              refine go_goto (tgt := 53) dX12_readClause_49 (by decide) ?_
              refine go_istore_n dX12_readClause_53 (Nat.le_of_ble_eq_true rfl) rfl ?_
              refine go_iload_n dX12_readClause_54 rfl ?_
              refine go_if_ne (tgt := 64) dX12_readClause_55 (by decide) (fun h55 => ?_) (fun h55 => ?_)
              · simp only [List.set]
                exact m64_X12_readClause ht hR hX hs hp ha hK1 hK2 (by omega)
              · exact absurd h55 (by decide)
