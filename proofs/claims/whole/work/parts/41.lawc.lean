/-! the class's reader of laws -/
def LawC (τ : AS) (cd : List Int) : Prop := τ.1 44 1 = iI cd.length ∧ ∀ i x, cd[i]? = some x → τ.1 45 i = iI x
theorem LawC.push {τ τ' : AS} {cd : List Int} {x : Int} (h : LawC τ cd) (h0 : τ'.1 44 1 = iI ((cd.length + 1 : Nat) : Int)) (h1 : τ'.1 45 = upd (τ.1 45) cd.length (iI x)) : LawC τ' (cd ++ [x]) := by
  refine ⟨by rw [h0, List.length_append]; rfl, fun i y hy => ?_⟩
  by_cases hi : i < cd.length
  · rw [List.getElem?_append_left hi] at hy
    rw [h1, upd_ne _ _ _ _ (by omega)]
    exact h.2 i y hy
  · rw [List.getElem?_append_right (by omega)] at hy
    have e : i = cd.length := by have := (List.getElem?_eq_some_iff.mp hy).1; simp at this; omega
    subst e
    simp at hy
    subst hy
    rw [h1, upd_same]
def PrsC (l : Launch) (D : va_G) (cA ad : Nat → Nat) (t : List Nat) (dd : Nat) (M : Mt) (xs : List Value) (S : Nat → RS) : Prop := ∀ (τ : AS) (K : Option Value → AS → Prop) (a : Nat) (cd : List Int), RO τ → TC τ t → a ≤ t.length → LawC τ cd → cd.length < a → (∀ q τ', Fr 44 45 τ τ' → S a = (q, none) → K (some (.int (iI 0))) (atc τ' q)) → (∀ q c τ', Fr 44 45 τ τ' → S a = (q, some c) → LawC τ' (cd ++ c.1) → K (some (.int (iI 1))) (atc τ' q)) → Call l D cA ad dd M (.ref 43 :: xs) (atc τ a) K
theorem ct_X3_put {l : Launch} {D : va_G} {cA ad : Nat → Nat} {d : Nat} {τ : AS} {K : Option Value → AS → Prop} {q : Nat} {cd : List Int} {x : Int} (hR : RO τ) (hL : LawC τ cd) (hl : cd.length < 240) (hK : ∀ τ', Fr 44 45 τ τ' → LawC τ' (cd ++ [x]) → K none (atc τ' q)) : Call l D cA ad d mX3_put [.ref 44, .int (iI x)] (atc τ q) K := by
  refine call_go (by decide) (Nat.le_of_ble_eq_true rfl) (show Go l D cA ad d mX3_put 0 [.ref 44, .int (iI x)] [] (atc τ q) K from ?_)
  refine go_aload_n dX3_put_0 rfl ?_
  refine go_getI fX3_35 dX3_put_1 rfl ?_
  refine go_aload_n dX3_put_4 rfl ?_
  refine go_getR fX3_9 dX3_put_5 rfl (hR _ _ _ rfl) ?_
  refine go_alen1 dX3_put_8 rfl ?_
  refine go_icmp_ge (tgt := 32) dX3_put_9 (by decide) (fun h9 => ?_) (fun h9 => ?_)
  · exfalso
    rw [atc_ne _ _ _ (by decide), hL.1, iI_ofNat, iI_le (by omega)] at h9
    omega
  · refine go_aload_n dX3_put_12 rfl ?_
    refine go_getR fX3_9 dX3_put_13 rfl (hR _ _ _ rfl) ?_
    refine go_aload_n dX3_put_16 rfl ?_
    refine go_getI fX3_35 dX3_put_17 rfl ?_
    refine go_iload_n dX3_put_20 rfl ?_
    refine go_iast dX3_put_21 rfl (by rw [atc_ne _ _ _ (by decide), hL.1]; exact vp_iI (by omega)) ?_
    rw [atc_ne _ _ _ (show (44 : Nat) ≠ 1 by decide), hL.1, cl_n _ (by omega), atc_fd (by decide)]
    refine go_aload_n dX3_put_22 rfl ?_
    refine go_dup dX3_put_23 rfl ?_
    refine go_getI fX3_35 dX3_put_24 rfl ?_
    refine go_iconst (v := iI 1) dX3_put_27 (by decide) ?_
    refine go_iadd dX3_put_28 ?_
    refine go_putI fX3_35 rfl dX3_put_29 rfl rfl rfl ?_
    refine go_vret rfl dX3_put_32 ?_
    rw [atc_fd (by decide), atc_ne _ _ _ (by decide), sI_ne _ _ _ _ (by decide), hL.1, iI_add, show ((cd.length : Int) + 1) = ((cd.length + 1 : Nat) : Int) by omega]
    refine hK _ ((Fr.rf.sI (by decide) (by decide)).sI (by decide) (by decide)) (hL.push ?_ ?_)
    · rw [sI_same, upd_same]
    · rw [sI_ne _ _ _ _ (by decide), sI_same]
theorem ct_X3_putLetter {l : Launch} {D : va_G} {cA ad : Nat → Nat} {d : Nat} {τ : AS} {K : Option Value → AS → Prop} {q : Nat} {cd : List Int} {j : Nat} (hR : RO τ) (hL : LawC τ cd) (hl : cd.length < 240) (hK : ∀ τ', Fr 44 45 τ τ' → LawC τ' (cd ++ [-1 - (j : Int)]) → K none (atc τ' q)) : Call l D cA ad (d + 1) mX3_putLetter [.ref 44, .int (iI j)] (atc τ q) K := by
  refine call_go (by decide) (Nat.le_of_ble_eq_true rfl) (show Go l D cA ad (d + 1) mX3_putLetter 0 [.ref 44, .int (iI j)] [] (atc τ q) K from ?_)
  refine go_aload_n dX3_putLetter_0 rfl ?_
  refine go_iconst (v := iI (-1)) dX3_putLetter_1 (by decide) ?_
  refine go_iload_n dX3_putLetter_2 rfl ?_
  refine go_isub dX3_putLetter_3 ?_
  rw [iI_sub]
  refine go_callV (as := [_]) wX3_39 dX3_putLetter_4 rfl rfl rfl rfl (Nat.le_of_ble_eq_true rfl) (ct_X3_put hR hL hl (fun τ' fr hL' => ?_))
  refine go_vret rfl dX3_putLetter_7 ?_
  exact hK τ' fr hL'
theorem ct_X4_comparison {l : Launch} {D : va_G} {cA ad : Nat → Nat} {d : Nat} {τ : AS} {K : Option Value → AS → Prop} {t : List Nat} {a : Nat} (ht : TOK t) (hR : RO τ) (hT : TC τ t) (ha : a ≤ t.length) (hK : K (some (.int (iI (cmpO (ch t (sk t a)))))) (atc τ (sk t a))) : Call l D cA ad (d + 1) mX4_comparison [.ref 43] (atc τ a) K := by
  refine call_go (by decide) (Nat.le_of_ble_eq_true rfl) (show Go l D cA ad (d + 1) mX4_comparison 0 [.ref 43] [] (atc τ a) K from ?_)
  refine go_aload_n dX4_comparison_0 rfl ?_
  refine go_getR fX4_18 dX4_comparison_1 rfl (hR _ _ _ rfl) ?_
  refine go_callV (as := []) wX4_35 dX4_comparison_4 rfl rfl rfl rfl (Nat.le_of_ble_eq_true rfl) (ct_X8_look ht hR hT ha ?_)
  have hch := ch_lt ht (sk t a)
  by_cases c0 : ch t (sk t a) = 60
  · rw [c0] at hK ⊢
    refine go_tabIn (off := 28) (tgt := 35) dX4_comparison_7 (by decide) (by decide) (by decide) (by decide) ?_
    refine go_bipush (v := iI (-16)) dX4_comparison_35 (by decide) ?_
    refine go_iret rfl rfl dX4_comparison_37 ?_
    exact hK
  · by_cases c1 : ch t (sk t a) = 61
    · rw [c1] at hK ⊢
      refine go_tabIn (off := 25) (tgt := 32) dX4_comparison_7 (by decide) (by decide) (by decide) (by decide) ?_
      refine go_bipush (v := iI (-15)) dX4_comparison_32 (by decide) ?_
      refine go_iret rfl rfl dX4_comparison_34 ?_
      exact hK
    · by_cases c2 : ch t (sk t a) = 62
      · rw [c2] at hK ⊢
        refine go_tabIn (off := 31) (tgt := 38) dX4_comparison_7 (by decide) (by decide) (by decide) (by decide) ?_
        refine go_bipush (v := iI (-17)) dX4_comparison_38 (by decide) ?_
        refine go_iret rfl rfl dX4_comparison_40 ?_
        exact hK
      · refine go_tabOut (tgt := 41) dX4_comparison_7 (by rw [iI_toInt (by omega) (by omega)]; omega) (by decide) ?_
        refine go_iconst (v := iI 0) dX4_comparison_41 (by decide) ?_
        refine go_iret rfl rfl dX4_comparison_42 ?_
        rw [show cmpO (ch t (sk t a)) = 0 by unfold cmpO; rw [if_neg c1, if_neg c0, if_neg c2]] at hK
        exact hK
theorem atS_n {t : List Nat} {a : Nat} {rec : Option (Nat → RS)} (h : ch t (sk t a) ≠ 91) (h2 : spG 4 (ch t (sk t a)) = none) : atS t rec a = numL t (sk t a) := by unfold atS; rw [if_neg h, h2]
theorem atS_l {t : List Nat} {a j : Nat} {rec : Option (Nat → RS)} (h : ch t (sk t a) ≠ 91) (h2 : spG 4 (ch t (sk t a)) = some j) : atS t rec a = (sk t a + 1, some ([-1 - (j : Int)], fun ev => ev j)) := by unfold atS; rw [if_neg h, h2]
theorem atS_0 {t : List Nat} {a : Nat} (h : ch t (sk t a) = 91) : atS t none a = (sk t a, none) := by unfold atS; rw [if_pos h]
theorem atS_b {t : List Nat} {a q : Nat} {f : Nat → RS} (h : ch t (sk t a) = 91) (e : f (sk t a + 1) = (q, none)) : atS t (some f) a = (q, none) := by unfold atS; rw [if_pos h]; dsimp only; rw [e]
theorem atS_c {t : List Nat} {a q : Nat} {c : CV} {f : Nat → RS} (h : ch t (sk t a) = 91) (e : f (sk t a + 1) = (q, some c)) (h2 : ch t (sk t q) = 93) : atS t (some f) a = (sk t q + 1, some c) := by unfold atS; rw [if_pos h]; dsimp only; rw [e]; dsimp only; rw [if_pos h2]
theorem atS_d {t : List Nat} {a q : Nat} {c : CV} {f : Nat → RS} (h : ch t (sk t a) = 91) (e : f (sk t a + 1) = (q, some c)) (h2 : ch t (sk t q) ≠ 93) : atS t (some f) a = (sk t q, none) := by unfold atS; rw [if_pos h]; dsimp only; rw [e]; dsimp only; rw [if_neg h2]
theorem at_C {l : Launch} {D : va_G} {cA ad : Nat → Nat} {t : List Nat} {d e : Nat} (ht : TOK t) (he : e ≤ 6) (hrec : ∀ e', e = e' + 1 → PrsC l D cA ad t (d + 4) mX4_readSum [.int (iI ((6 - e' : Nat) : Int))] (smE t e')) : PrsC l D cA ad t (d + 5) mX4_readAtom [.int (iI ((6 - e : Nat) : Int))] (atS t (recE t e)) := by
  intro τ K a cd hR hT ha hL hcd hK1 hK2
  have ht1 := ht.1
  have hch := ch_lt ht (sk t a)
  have hsk := sk_le ha
  have hsg := sk_ge t a
  refine call_go (by decide) (Nat.le_of_ble_eq_true rfl) (show Go l D cA ad (d + 5) mX4_readAtom 0 [.ref 43, .int (iI ((6 - e : Nat) : Int)), .null, .null, .null] [] (atc τ a) K from ?_)
  refine go_aload_n dX4_readAtom_0 rfl ?_
  refine go_getR fX4_18 dX4_readAtom_1 rfl (hR _ _ _ rfl) ?_
  refine go_callV (as := []) wX4_35 dX4_readAtom_4 rfl rfl rfl rfl (Nat.le_of_ble_eq_true rfl) (ct_X8_look ht hR hT ha ?_)
  refine go_istore_n dX4_readAtom_7 (Nat.le_of_ble_eq_true rfl) rfl ?_
  refine go_iload_n dX4_readAtom_8 rfl ?_
  refine go_bipush (v := iI 91) dX4_readAtom_9 (by decide) ?_
  refine go_icmp_ne (tgt := 63) dX4_readAtom_11 (by decide) (fun h11 => ?_) (fun h11 => ?_)
  · rw [iI_eq (by omega)] at h11
    refine go_iload_n dX4_readAtom_63 rfl ?_
    refine go_iconst (v := iI (-1)) dX4_readAtom_64 (by decide) ?_
    refine go_icmp_ne (tgt := 72) dX4_readAtom_65 (by decide) (fun h65 => ?_) (fun h65 => ?_)
    · rw [iI_eq (by omega)] at h65
      refine go_ldcS (i := 4) (by decide) rfl dX4_readAtom_72 ?_
      refine go_iload_n dX4_readAtom_74 rfl ?_
      refine go_i2c dX4_readAtom_75 ?_
      rw [iI_c (by omega)]
      refine go_callVs (i := 4) (as := [_]) (by decide) wX4_84 rfl dX4_readAtom_76 rfl rfl (Nat.le_of_ble_eq_true rfl) (ct_J0_indexOf_0f7a4 (by decide) (by omega) (fun j hj hsc => ?_) (fun hno => ?_))
      · have hsp := spG_some (i := 4) (by decide) hj hsc
        have hj9 := (sc_ok 4 (by decide)).1
        have hp1 := sk_lt_of (t := t) (a := a) (c := ch t (sk t a)) rfl h65
        refine go_istore_n dX4_readAtom_79 (Nat.le_of_ble_eq_true rfl) rfl ?_
        refine go_iload_n dX4_readAtom_80 rfl ?_
        refine go_if_lt (tgt := 107) dX4_readAtom_81 (by decide) (fun h81 => ?_) (fun h81 => ?_)
        · exfalso
          rw [iI_lt0 (by omega)] at h81
          omega
        · refine go_aload_n dX4_readAtom_84 rfl ?_
          refine go_getR fX4_18 dX4_readAtom_85 rfl (hR _ _ _ rfl) ?_
          refine go_dup dX4_readAtom_88 rfl ?_
          refine go_getI fX4_22 dX4_readAtom_89 rfl ?_
          refine go_iconst (v := iI 1) dX4_readAtom_92 (by decide) ?_
          refine go_iadd dX4_readAtom_93 ?_
          refine go_putI fX4_22 rfl dX4_readAtom_94 rfl rfl rfl ?_
          rw [atc_inc]
          refine go_aload_n dX4_readAtom_97 rfl ?_
          refine go_getR fX4_12 dX4_readAtom_98 rfl (hR _ _ _ rfl) ?_
          refine go_iload_n dX4_readAtom_101 rfl ?_
          refine go_callV (as := [_]) wX4_90 dX4_readAtom_102 rfl rfl rfl rfl (Nat.le_of_ble_eq_true rfl) (ct_X3_putLetter hR hL (by omega) (fun τ' fr hL' => ?_))
          refine go_iconst (v := iI 1) dX4_readAtom_105 (by decide) ?_
          refine go_iret rfl rfl dX4_readAtom_106 ?_
          exact hK2 _ _ _ fr (atS_l h11 hsp) hL'
      · have hsp := spG_none (i := 4) (c := ch t (sk t a)) hno
        refine go_istore_n dX4_readAtom_79 (Nat.le_of_ble_eq_true rfl) rfl ?_
        refine go_iload_n dX4_readAtom_80 rfl ?_
        refine go_if_lt (tgt := 107) dX4_readAtom_81 (by decide) (fun h81 => ?_) (fun h81 => ?_)
        · refine go_aload_n dX4_readAtom_107 rfl ?_
          refine go_getR fX4_18 dX4_readAtom_108 rfl (hR _ _ _ rfl) ?_
          refine go_iconst (v := iI 4) dX4_readAtom_111 (by decide) ?_
          refine go_callV (as := [_]) wX4_93 dX4_readAtom_112 rfl rfl rfl rfl (Nat.le_of_ble_eq_true rfl) (ct_X8_takeNumber (m := 4) ht hR hT hsk (by decide) (fun d0 => ?_) (fun k k1 k2 kd kn => ?_) (fun kd => ?_))
          · rw [sk_sk] at d0 ⊢
            have hbad := numL_0 d0
            refine go_istore dX4_readAtom_115 (Nat.le_of_ble_eq_true rfl) rfl ?_
            refine go_aload_n dX4_readAtom_117 rfl ?_
            refine go_getR fX4_12 dX4_readAtom_118 rfl (hR _ _ _ rfl) ?_
            refine go_iload dX4_readAtom_121 rfl ?_
            refine go_callV (as := [_]) wX4_49 dX4_readAtom_123 rfl rfl rfl rfl (Nat.le_of_ble_eq_true rfl) (ct_X3_put hR hL (by omega) (fun τ' fr hL' => ?_))
            refine go_iload dX4_readAtom_126 rfl ?_
            refine go_iconst (v := iI (-1)) dX4_readAtom_128 (by decide) ?_
            refine go_icmp_eq (tgt := 136) dX4_readAtom_129 (by decide) (fun h129 => ?_) (fun h129 => ?_)
            · refine go_iconst (v := iI 0) dX4_readAtom_136 (by decide) ?_
              refine go_iret rfl rfl dX4_readAtom_137 ?_
              exact hK1 _ _ fr ((atS_n h11 hsp).trans hbad)
            · exact absurd rfl h129
          · rw [sk_sk] at kd kn ⊢
            have hnv := nv_ge k kd
            have hn9 : nv t (sk t a) k < 100000 := by
              have := hnv.2
              rcases (show k = 1 ∨ k = 2 ∨ k = 3 ∨ k = 4 by omega) with rfl | rfl | rfl | rfl <;> omega
            have hgood := numL_k k1 k2 kd kn
            have hlt := isD_lt (kd 0 (by omega))
            refine go_istore dX4_readAtom_115 (Nat.le_of_ble_eq_true rfl) rfl ?_
            refine go_aload_n dX4_readAtom_117 rfl ?_
            refine go_getR fX4_12 dX4_readAtom_118 rfl (hR _ _ _ rfl) ?_
            refine go_iload dX4_readAtom_121 rfl ?_
            refine go_callV (as := [_]) wX4_49 dX4_readAtom_123 rfl rfl rfl rfl (Nat.le_of_ble_eq_true rfl) (ct_X3_put hR hL (by omega) (fun τ' fr hL' => ?_))
            refine go_iload dX4_readAtom_126 rfl ?_
            refine go_iconst (v := iI (-1)) dX4_readAtom_128 (by decide) ?_
            refine go_icmp_eq (tgt := 136) dX4_readAtom_129 (by decide) (fun h129 => ?_) (fun h129 => ?_)
            · exfalso
              rw [iI_eq (by omega)] at h129
              omega
            · refine go_iconst (v := iI 1) dX4_readAtom_132 (by decide) ?_
              refine go_goto (tgt := 137) dX4_readAtom_133 (by decide) ?_
              refine go_iret rfl rfl dX4_readAtom_137 ?_
              exact hK2 _ _ _ fr ((atS_n h11 hsp).trans hgood) hL'
          · rw [sk_sk] at kd ⊢
            have hbad := numL_5 kd
            refine go_istore dX4_readAtom_115 (Nat.le_of_ble_eq_true rfl) rfl ?_
            refine go_aload_n dX4_readAtom_117 rfl ?_
            refine go_getR fX4_12 dX4_readAtom_118 rfl (hR _ _ _ rfl) ?_
            refine go_iload dX4_readAtom_121 rfl ?_
            refine go_callV (as := [_]) wX4_49 dX4_readAtom_123 rfl rfl rfl rfl (Nat.le_of_ble_eq_true rfl) (ct_X3_put hR hL (by omega) (fun τ' fr hL' => ?_))
            refine go_iload dX4_readAtom_126 rfl ?_
            refine go_iconst (v := iI (-1)) dX4_readAtom_128 (by decide) ?_
            refine go_icmp_eq (tgt := 136) dX4_readAtom_129 (by decide) (fun h129 => ?_) (fun h129 => ?_)
            · refine go_iconst (v := iI 0) dX4_readAtom_136 (by decide) ?_
              refine go_iret rfl rfl dX4_readAtom_137 ?_
              exact hK1 _ _ fr ((atS_n h11 hsp).trans hbad)
            · exact absurd rfl h129
        · exact absurd h81 (by decide)
    · rw [iI_eq (by omega)] at h65
      have hsp := spG_none (i := 4) (c := ch t (sk t a)) (fun j hj => by have := (sc_ok 4 (by decide)).2 j hj; omega)
      refine go_iconst (v := iI (-1)) dX4_readAtom_68 (by decide) ?_
      refine go_goto (tgt := 79) dX4_readAtom_69 (by decide) ?_
      refine go_istore_n dX4_readAtom_79 (Nat.le_of_ble_eq_true rfl) rfl ?_
      refine go_iload_n dX4_readAtom_80 rfl ?_
      refine go_if_lt (tgt := 107) dX4_readAtom_81 (by decide) (fun h81 => ?_) (fun h81 => ?_)
      · refine go_aload_n dX4_readAtom_107 rfl ?_
        refine go_getR fX4_18 dX4_readAtom_108 rfl (hR _ _ _ rfl) ?_
        refine go_iconst (v := iI 4) dX4_readAtom_111 (by decide) ?_
        refine go_callV (as := [_]) wX4_93 dX4_readAtom_112 rfl rfl rfl rfl (Nat.le_of_ble_eq_true rfl) (ct_X8_takeNumber (m := 4) ht hR hT hsk (by decide) (fun d0 => ?_) (fun k k1 k2 kd kn => ?_) (fun kd => ?_))
        · rw [sk_sk] at d0 ⊢
          have hbad := numL_0 d0
          refine go_istore dX4_readAtom_115 (Nat.le_of_ble_eq_true rfl) rfl ?_
          refine go_aload_n dX4_readAtom_117 rfl ?_
          refine go_getR fX4_12 dX4_readAtom_118 rfl (hR _ _ _ rfl) ?_
          refine go_iload dX4_readAtom_121 rfl ?_
          refine go_callV (as := [_]) wX4_49 dX4_readAtom_123 rfl rfl rfl rfl (Nat.le_of_ble_eq_true rfl) (ct_X3_put hR hL (by omega) (fun τ' fr hL' => ?_))
          refine go_iload dX4_readAtom_126 rfl ?_
          refine go_iconst (v := iI (-1)) dX4_readAtom_128 (by decide) ?_
          refine go_icmp_eq (tgt := 136) dX4_readAtom_129 (by decide) (fun h129 => ?_) (fun h129 => ?_)
          · refine go_iconst (v := iI 0) dX4_readAtom_136 (by decide) ?_
            refine go_iret rfl rfl dX4_readAtom_137 ?_
            exact hK1 _ _ fr ((atS_n h11 hsp).trans hbad)
          · exact absurd rfl h129
        · rw [sk_sk] at kd kn ⊢
          have hnv := nv_ge k kd
          have hn9 : nv t (sk t a) k < 100000 := by
            have := hnv.2
            rcases (show k = 1 ∨ k = 2 ∨ k = 3 ∨ k = 4 by omega) with rfl | rfl | rfl | rfl <;> omega
          have hgood := numL_k k1 k2 kd kn
          have hlt := isD_lt (kd 0 (by omega))
          refine go_istore dX4_readAtom_115 (Nat.le_of_ble_eq_true rfl) rfl ?_
          refine go_aload_n dX4_readAtom_117 rfl ?_
          refine go_getR fX4_12 dX4_readAtom_118 rfl (hR _ _ _ rfl) ?_
          refine go_iload dX4_readAtom_121 rfl ?_
          refine go_callV (as := [_]) wX4_49 dX4_readAtom_123 rfl rfl rfl rfl (Nat.le_of_ble_eq_true rfl) (ct_X3_put hR hL (by omega) (fun τ' fr hL' => ?_))
          refine go_iload dX4_readAtom_126 rfl ?_
          refine go_iconst (v := iI (-1)) dX4_readAtom_128 (by decide) ?_
          refine go_icmp_eq (tgt := 136) dX4_readAtom_129 (by decide) (fun h129 => ?_) (fun h129 => ?_)
          · exfalso
            rw [iI_eq (by omega)] at h129
            omega
          · refine go_iconst (v := iI 1) dX4_readAtom_132 (by decide) ?_
            refine go_goto (tgt := 137) dX4_readAtom_133 (by decide) ?_
            refine go_iret rfl rfl dX4_readAtom_137 ?_
            exact hK2 _ _ _ fr ((atS_n h11 hsp).trans hgood) hL'
        · rw [sk_sk] at kd ⊢
          have hbad := numL_5 kd
          refine go_istore dX4_readAtom_115 (Nat.le_of_ble_eq_true rfl) rfl ?_
          refine go_aload_n dX4_readAtom_117 rfl ?_
          refine go_getR fX4_12 dX4_readAtom_118 rfl (hR _ _ _ rfl) ?_
          refine go_iload dX4_readAtom_121 rfl ?_
          refine go_callV (as := [_]) wX4_49 dX4_readAtom_123 rfl rfl rfl rfl (Nat.le_of_ble_eq_true rfl) (ct_X3_put hR hL (by omega) (fun τ' fr hL' => ?_))
          refine go_iload dX4_readAtom_126 rfl ?_
          refine go_iconst (v := iI (-1)) dX4_readAtom_128 (by decide) ?_
          refine go_icmp_eq (tgt := 136) dX4_readAtom_129 (by decide) (fun h129 => ?_) (fun h129 => ?_)
          · refine go_iconst (v := iI 0) dX4_readAtom_136 (by decide) ?_
            refine go_iret rfl rfl dX4_readAtom_137 ?_
            exact hK1 _ _ fr ((atS_n h11 hsp).trans hbad)
          · exact absurd rfl h129
      · exact absurd h81 (by decide)
  · rw [iI_eq (by omega)] at h11
    have hp1 := sk_lt_of h11 (by decide)
    refine go_iload_n dX4_readAtom_14 rfl ?_
    refine go_bipush (v := iI 6) dX4_readAtom_15 (by decide) ?_
    refine go_icmp_lt (tgt := 22) dX4_readAtom_17 (by decide) (fun h17 => ?_) (fun h17 => ?_)
    · rw [iI_lt (by omega)] at h17
      obtain ⟨e', rfl⟩ : ∃ e', e = e' + 1 := ⟨e - 1, by omega⟩
      refine go_aload_n dX4_readAtom_22 rfl ?_
      refine go_getR fX4_18 dX4_readAtom_23 rfl (hR _ _ _ rfl) ?_
      refine go_dup dX4_readAtom_26 rfl ?_
      refine go_getI fX4_22 dX4_readAtom_27 rfl ?_
      refine go_iconst (v := iI 1) dX4_readAtom_30 (by decide) ?_
      refine go_iadd dX4_readAtom_31 ?_
      refine go_putI fX4_22 rfl dX4_readAtom_32 rfl rfl rfl ?_
      rw [atc_inc]
      refine go_aload_n dX4_readAtom_35 rfl ?_
      refine go_iload_n dX4_readAtom_36 rfl ?_
      refine go_iconst (v := iI 1) dX4_readAtom_37 (by decide) ?_
      refine go_iadd dX4_readAtom_38 ?_
      have e6 : iI ((6 - (e' + 1) : Nat) : Int) + iI 1 = iI ((6 - e' : Nat) : Int) := by rw [iI_add]; congr 1; omega
      rw [e6]
      refine go_callV (as := [_]) wX4_43 dX4_readAtom_39 rfl rfl rfl rfl (Nat.le_of_ble_eq_true rfl) (hrec e' rfl τ _ (sk t a + 1) cd hR hT hp1 hL (by omega) (fun q τ' fr hq => ?_) (fun q c τ' fr hq hL' => ?_))
      · refine go_if_eq (tgt := 61) dX4_readAtom_42 (by decide) (fun h42 => ?_) (fun h42 => ?_)
        · refine go_iconst (v := iI 0) dX4_readAtom_61 (by decide) ?_
          refine go_iret rfl rfl dX4_readAtom_62 ?_
          exact hK1 _ _ fr (atS_b h11 hq)
        · exact absurd h42 (by decide)
      · have hgd := smE_gd (t := t) e' (sk t a + 1) hp1
        rw [hq] at hgd
        have hle : q ≤ t.length := hgd.1
        have hR' : RO τ' := fr.RO hR
        have hT' : TC τ' t := fr.TC hT (by decide)
        refine go_if_eq (tgt := 61) dX4_readAtom_42 (by decide) (fun h42 => ?_) (fun h42 => ?_)
        · exact absurd h42 (by decide)
        · refine go_aload_n dX4_readAtom_45 rfl ?_
          refine go_getR fX4_18 dX4_readAtom_46 rfl (hR' _ _ _ rfl) ?_
          refine go_bipush (v := iI 93) dX4_readAtom_49 (by decide) ?_
          refine go_callV (as := [_]) wX4_39 dX4_readAtom_51 rfl rfl rfl rfl (Nat.le_of_ble_eq_true rfl) (ct_X8_take (c := 93) ht hR' hT' hle (by decide) (fun hne => ?_) (fun heq => ?_))
          · refine go_if_eq (tgt := 61) dX4_readAtom_54 (by decide) (fun h54 => ?_) (fun h54 => ?_)
            · refine go_iconst (v := iI 0) dX4_readAtom_61 (by decide) ?_
              refine go_iret rfl rfl dX4_readAtom_62 ?_
              exact hK1 _ _ fr (atS_d h11 hq hne)
            · exact absurd h54 (by decide)
          · refine go_if_eq (tgt := 61) dX4_readAtom_54 (by decide) (fun h54 => ?_) (fun h54 => ?_)
            · exact absurd h54 (by decide)
            · refine go_iconst (v := iI 1) dX4_readAtom_57 (by decide) ?_
              refine go_goto (tgt := 62) dX4_readAtom_58 (by decide) ?_
              refine go_iret rfl rfl dX4_readAtom_62 ?_
              exact hK2 _ _ _ fr (atS_c h11 hq heq) hL'
    · rw [iI_lt (by omega)] at h17
      have he0 : e = 0 := by omega
      subst he0
      refine go_iconst (v := iI 0) dX4_readAtom_20 (by decide) ?_
      refine go_iret rfl rfl dX4_readAtom_21 ?_
      exact hK1 _ _ Fr.rf (atS_0 h11)
theorem lpS_1 {t : List Nat} {item : Nat → RS} {c1 c2 o1 o2 : Int} {n a q : Nat} {c : CV} (h : ch t (sk t a) = c1) (e : item (sk t a + 1) = (q, none)) : lpS t item c1 c2 o1 o2 (n + 1) a c = (q, none) := by unfold lpS; rw [if_pos h, e]
theorem lpS_2 {t : List Nat} {item : Nat → RS} {c1 c2 o1 o2 : Int} {n a q : Nat} {c x : CV} (h : ch t (sk t a) = c1) (e : item (sk t a + 1) = (q, some x)) : lpS t item c1 c2 o1 o2 (n + 1) a c = lpS t item c1 c2 o1 o2 n q (cvB o1 c x) := by
  show (if _ then _ else _) = _
  rw [if_pos h, e]
theorem lpS_3 {t : List Nat} {item : Nat → RS} {c1 c2 o1 o2 : Int} {n a q : Nat} {c : CV} (h0 : ch t (sk t a) ≠ c1) (h : ch t (sk t a) = c2) (e : item (sk t a + 1) = (q, none)) : lpS t item c1 c2 o1 o2 (n + 1) a c = (q, none) := by unfold lpS; rw [if_neg h0, if_pos h, e]
theorem lpS_4 {t : List Nat} {item : Nat → RS} {c1 c2 o1 o2 : Int} {n a q : Nat} {c x : CV} (h0 : ch t (sk t a) ≠ c1) (h : ch t (sk t a) = c2) (e : item (sk t a + 1) = (q, some x)) : lpS t item c1 c2 o1 o2 (n + 1) a c = lpS t item c1 c2 o1 o2 n q (cvB o2 c x) := by
  show (if _ then _ else _) = _
  rw [if_neg h0, if_pos h, e]
theorem lpS_5 {t : List Nat} {item : Nat → RS} {c1 c2 o1 o2 : Int} {n a : Nat} {c : CV} (h0 : ch t (sk t a) ≠ c1) (h : ch t (sk t a) ≠ c2) : lpS t item c1 c2 o1 o2 (n + 1) a c = (sk t a, some c) := by unfold lpS; rw [if_neg h0, if_neg h]
theorem rnS_0 {t : List Nat} {item : Nat → RS} {c1 c2 o1 o2 : Int} {a q : Nat} (e : item a = (q, none)) : rnS t item c1 c2 o1 o2 a = (q, none) := by unfold rnS; rw [e]
theorem rnS_1 {t : List Nat} {item : Nat → RS} {c1 c2 o1 o2 : Int} {a q : Nat} {x : CV} (e : item a = (q, some x)) : rnS t item c1 c2 o1 o2 a = lpS t item c1 c2 o1 o2 242 q x := by unfold rnS; rw [e]
theorem cvB_code {o : Int} {x y : CV} {cd : List Int} : cd ++ x.1 ++ y.1 ++ [o] = cd ++ (cvB o x y).1 := by unfold cvB; simp only [List.append_assoc]
theorem lp_tm_C {l : Launch} {D : va_G} {cA ad : Nat → Nat} {d : Nat} {σ : AS} {K : Option Value → AS → Prop} {t : List Nat} {e : Nat} {cd : List Int} {S0 : RS} (ht : TOK t) (hgd : GD t (atS t (recE t e))) (hit : PrsC l D cA ad t (d + 2) mX4_readAtom [.int (iI ((6 - e : Nat) : Int))] (atS t (recE t e))) (hK1 : ∀ q τ', Fr 44 45 σ τ' → S0 = (q, none) → K (some (.int (iI 0))) (atc τ' q)) (hK2 : ∀ q c τ', Fr 44 45 σ τ' → S0 = (q, some c) → LawC τ' (cd ++ c.1) → K (some (.int (iI 1))) (atc τ' q)) : ∀ (n a k : Nat) (v : Value) (c : CV) (τ : AS), t.length - a < n → k < a → a ≤ t.length → RO τ → TC τ t → Fr 44 45 σ τ → LawC τ (cd ++ c.1) → (cd ++ c.1).length < a → S0 = lpS t (atS t (recE t e)) 42 47 (-13) (-14) n a c → Go l D cA ad (d + 3) mX4_readTerm 12 [.ref 43, .int (iI ((6 - e : Nat) : Int)), .int (iI k), v] [] (atc τ a) K := by
  have ht1 := ht.1
  intro n
  induction n with
  | zero => intro a k v c τ h; omega
  | succ n ih =>
  intro a k v c τ hn hka ha hR hT hfr hL hcl hres
  have hch := ch_lt ht (sk t a)
  have hsk := sk_le ha
  have hsg := sk_ge t a
  refine go_iload_n dX4_readTerm_12 rfl ?_
  refine go_sipush (v := iI 240) dX4_readTerm_13 (by decide) ?_
  refine go_icmp_ge (tgt := 90) dX4_readTerm_16 (by decide) (fun h16 => ?_) (fun h16 => ?_)
  · exfalso
    rw [iI_le (by omega)] at h16
    omega
  · refine go_aload_n dX4_readTerm_19 rfl ?_
    refine go_getR fX4_18 dX4_readTerm_20 rfl (hR _ _ _ rfl) ?_
    refine go_callV (as := []) wX4_35 dX4_readTerm_23 rfl rfl rfl rfl (Nat.le_of_ble_eq_true rfl) (ct_X8_look ht hR hT ha ?_)
    refine go_istore_n dX4_readTerm_26 (Nat.le_of_ble_eq_true rfl) rfl ?_
    refine go_iload_n dX4_readTerm_27 rfl ?_
    refine go_bipush (v := iI 42) dX4_readTerm_28 (by decide) ?_
    refine go_icmp_eq (tgt := 41) dX4_readTerm_30 (by decide) (fun h30 => ?_) (fun h30 => ?_)
    · rw [iI_eq (by omega)] at h30
      refine go_aload_n dX4_readTerm_41 rfl ?_
      refine go_getR fX4_18 dX4_readTerm_42 rfl (hR _ _ _ rfl) ?_
      refine go_dup dX4_readTerm_45 rfl ?_
      refine go_getI fX4_22 dX4_readTerm_46 rfl ?_
      refine go_iconst (v := iI 1) dX4_readTerm_49 (by decide) ?_
      refine go_iadd dX4_readTerm_50 ?_
      refine go_putI fX4_22 rfl dX4_readTerm_51 rfl rfl rfl ?_
      rw [atc_inc]
      have hp1 := sk_lt_of (t := t) (a := a) (c := ch t (sk t a)) rfl (by omega)
      refine go_aload_n dX4_readTerm_54 rfl ?_
      refine go_iload_n dX4_readTerm_55 rfl ?_
      refine go_callV (as := [_]) wX4_79 dX4_readTerm_56 rfl rfl rfl rfl (Nat.le_of_ble_eq_true rfl) (hit τ _ (sk t a + 1) (cd ++ c.1) hR hT hp1 hL (by omega) (fun q τ' fr hq => ?_) (fun q x τ' fr hq hL' => ?_))
      · refine go_if_ne (tgt := 64) dX4_readTerm_59 (by decide) (fun h59 => ?_) (fun h59 => ?_)
        · exact absurd h59 (by decide)
        · refine go_iconst (v := iI 0) dX4_readTerm_62 (by decide) ?_
          refine go_iret rfl rfl dX4_readTerm_63 ?_
          exact hK1 _ _ (hfr.tr fr) (hres.trans (lpS_1 h30 hq))
      · have hgi := hgd (sk t a + 1) hp1
        rw [hq] at hgi
        have hg2 := hgi.2.2 x rfl
        dsimp only at hgi hg2
        have hR' : RO τ' := fr.RO hR
        have hT' : TC τ' t := fr.TC hT (by decide)
        refine go_if_ne (tgt := 64) dX4_readTerm_59 (by decide) (fun h59 => ?_) (fun h59 => ?_)
        · refine go_aload_n dX4_readTerm_64 rfl ?_
          refine go_getR fX4_12 dX4_readTerm_65 rfl (hR' _ _ _ rfl) ?_
          refine go_iload_n dX4_readTerm_68 rfl ?_
          refine go_bipush (v := iI 42) dX4_readTerm_69 (by decide) ?_
          refine go_icmp_ne (tgt := 79) dX4_readTerm_71 (by decide) (fun h71 => ?_) (fun h71 => ?_)
          · exfalso
            rw [iI_eq (by omega)] at h71
            omega
          · refine go_bipush (v := iI (-13)) dX4_readTerm_74 (by decide) ?_
            refine go_goto (tgt := 81) dX4_readTerm_76 (by decide) ?_
            refine go_callV (as := [_]) wX4_49 dX4_readTerm_81 rfl rfl rfl rfl (Nat.le_of_ble_eq_true rfl) (ct_X3_put hR' hL' (by simp only [List.length_append] at hcl ⊢; omega) (fun τ2 fr2 hL2 => ?_))
            refine go_iincI dX4_readTerm_84 rfl (Nat.le_of_ble_eq_true rfl) rfl ?_
            refine go_goto (tgt := 12) dX4_readTerm_87 (by decide) ?_
            simp only [List.set, iI_add]
            rw [cvB_code] at hL2
            exact ih q (k + 1) _ (cvB (-13) c x) τ2 (by omega) (by omega) hgi.1 (fr2.RO hR') (fr2.TC hT' (by decide)) ((hfr.tr fr).tr fr2) hL2 (by have := hcl; unfold cvB; simp only [List.length_append, List.length_cons, List.length_nil] at this ⊢; omega) (hres.trans (lpS_2 h30 hq))
        · exact absurd h59 (by decide)
    · rw [iI_eq (by omega)] at h30
      refine go_iload_n dX4_readTerm_33 rfl ?_
      refine go_bipush (v := iI 47) dX4_readTerm_34 (by decide) ?_
      refine go_icmp_eq (tgt := 41) dX4_readTerm_36 (by decide) (fun h36 => ?_) (fun h36 => ?_)
      · rw [iI_eq (by omega)] at h36
        refine go_aload_n dX4_readTerm_41 rfl ?_
        refine go_getR fX4_18 dX4_readTerm_42 rfl (hR _ _ _ rfl) ?_
        refine go_dup dX4_readTerm_45 rfl ?_
        refine go_getI fX4_22 dX4_readTerm_46 rfl ?_
        refine go_iconst (v := iI 1) dX4_readTerm_49 (by decide) ?_
        refine go_iadd dX4_readTerm_50 ?_
        refine go_putI fX4_22 rfl dX4_readTerm_51 rfl rfl rfl ?_
        rw [atc_inc]
        have hp1 := sk_lt_of (t := t) (a := a) (c := ch t (sk t a)) rfl (by omega)
        refine go_aload_n dX4_readTerm_54 rfl ?_
        refine go_iload_n dX4_readTerm_55 rfl ?_
        refine go_callV (as := [_]) wX4_79 dX4_readTerm_56 rfl rfl rfl rfl (Nat.le_of_ble_eq_true rfl) (hit τ _ (sk t a + 1) (cd ++ c.1) hR hT hp1 hL (by omega) (fun q τ' fr hq => ?_) (fun q x τ' fr hq hL' => ?_))
        · refine go_if_ne (tgt := 64) dX4_readTerm_59 (by decide) (fun h59 => ?_) (fun h59 => ?_)
          · exact absurd h59 (by decide)
          · refine go_iconst (v := iI 0) dX4_readTerm_62 (by decide) ?_
            refine go_iret rfl rfl dX4_readTerm_63 ?_
            exact hK1 _ _ (hfr.tr fr) (hres.trans (lpS_3 h30 h36 hq))
        · have hgi := hgd (sk t a + 1) hp1
          rw [hq] at hgi
          have hg2 := hgi.2.2 x rfl
          dsimp only at hgi hg2
          have hR' : RO τ' := fr.RO hR
          have hT' : TC τ' t := fr.TC hT (by decide)
          refine go_if_ne (tgt := 64) dX4_readTerm_59 (by decide) (fun h59 => ?_) (fun h59 => ?_)
          · refine go_aload_n dX4_readTerm_64 rfl ?_
            refine go_getR fX4_12 dX4_readTerm_65 rfl (hR' _ _ _ rfl) ?_
            refine go_iload_n dX4_readTerm_68 rfl ?_
            refine go_bipush (v := iI 42) dX4_readTerm_69 (by decide) ?_
            refine go_icmp_ne (tgt := 79) dX4_readTerm_71 (by decide) (fun h71 => ?_) (fun h71 => ?_)
            · refine go_bipush (v := iI (-14)) dX4_readTerm_79 (by decide) ?_
              refine go_callV (as := [_]) wX4_49 dX4_readTerm_81 rfl rfl rfl rfl (Nat.le_of_ble_eq_true rfl) (ct_X3_put hR' hL' (by simp only [List.length_append] at hcl ⊢; omega) (fun τ2 fr2 hL2 => ?_))
              refine go_iincI dX4_readTerm_84 rfl (Nat.le_of_ble_eq_true rfl) rfl ?_
              refine go_goto (tgt := 12) dX4_readTerm_87 (by decide) ?_
              simp only [List.set, iI_add]
              rw [cvB_code] at hL2
              exact ih q (k + 1) _ (cvB (-14) c x) τ2 (by omega) (by omega) hgi.1 (fr2.RO hR') (fr2.TC hT' (by decide)) ((hfr.tr fr).tr fr2) hL2 (by have := hcl; unfold cvB; simp only [List.length_append, List.length_cons, List.length_nil] at this ⊢; omega) (hres.trans (lpS_4 h30 h36 hq))
            · exfalso
              rw [iI_eq (by omega)] at h71
              omega
          · exact absurd h59 (by decide)
      · rw [iI_eq (by omega)] at h36
        refine go_iconst (v := iI 1) dX4_readTerm_39 (by decide) ?_
        refine go_iret rfl rfl dX4_readTerm_40 ?_
        exact hK2 _ _ _ hfr (hres.trans (lpS_5 h30 h36)) hL
theorem tm_C {l : Launch} {D : va_G} {cA ad : Nat → Nat} {t : List Nat} {d e : Nat} (ht : TOK t) (hgd : GD t (atS t (recE t e))) (hit : PrsC l D cA ad t (d + 2) mX4_readAtom [.int (iI ((6 - e : Nat) : Int))] (atS t (recE t e))) : PrsC l D cA ad t (d + 3) mX4_readTerm [.int (iI ((6 - e : Nat) : Int))] (rnS t (atS t (recE t e)) 42 47 (-13) (-14)) := by
  intro τ K a cd hR hT ha hL hcd hK1 hK2
  have ht1 := ht.1
  refine call_go (by decide) (Nat.le_of_ble_eq_true rfl) (show Go l D cA ad (d + 3) mX4_readTerm 0 [.ref 43, .int (iI ((6 - e : Nat) : Int)), .null, .null] [] (atc τ a) K from ?_)
  refine go_aload_n dX4_readTerm_0 rfl ?_
  refine go_iload_n dX4_readTerm_1 rfl ?_
  refine go_callV (as := [_]) wX4_79 dX4_readTerm_2 rfl rfl rfl rfl (Nat.le_of_ble_eq_true rfl) (hit τ _ a cd hR hT ha hL hcd (fun q τ' fr hq => ?_) (fun q x τ' fr hq hL' => ?_))
  · refine go_if_ne (tgt := 10) dX4_readTerm_5 (by decide) (fun h5 => ?_) (fun h5 => ?_)
    · exact absurd h5 (by decide)
    · refine go_iconst (v := iI 0) dX4_readTerm_8 (by decide) ?_
      refine go_iret rfl rfl dX4_readTerm_9 ?_
      exact hK1 _ _ fr (rnS_0 hq)
  · have hgi := hgd a ha
    rw [hq] at hgi
    have hg2 := hgi.2.2 x rfl
    dsimp only at hgi hg2
    refine go_if_ne (tgt := 10) dX4_readTerm_5 (by decide) (fun h5 => ?_) (fun h5 => ?_)
    · refine go_iconst (v := iI 0) dX4_readTerm_10 (by decide) ?_
      refine go_istore_n dX4_readTerm_11 (Nat.le_of_ble_eq_true rfl) rfl ?_
      simp only [List.set]
      exact lp_tm_C ht hgd hit hK1 hK2 242 q 0 _ x τ' (by omega) (by omega) hgi.1 (fr.RO hR) (fr.TC hT (by decide)) fr hL' (by simp only [List.length_append]; omega) (rnS_1 hq)
    · exact absurd h5 (by decide)
theorem lp_sm_C {l : Launch} {D : va_G} {cA ad : Nat → Nat} {d : Nat} {σ : AS} {K : Option Value → AS → Prop} {t : List Nat} {e : Nat} {cd : List Int} {S0 : RS} (ht : TOK t) (hgd : GD t (tmS t (recE t e))) (hit : PrsC l D cA ad t (d + 2) mX4_readTerm [.int (iI ((6 - e : Nat) : Int))] (tmS t (recE t e))) (hK1 : ∀ q τ', Fr 44 45 σ τ' → S0 = (q, none) → K (some (.int (iI 0))) (atc τ' q)) (hK2 : ∀ q c τ', Fr 44 45 σ τ' → S0 = (q, some c) → LawC τ' (cd ++ c.1) → K (some (.int (iI 1))) (atc τ' q)) : ∀ (n a k : Nat) (v : Value) (c : CV) (τ : AS), t.length - a < n → k < a → a ≤ t.length → RO τ → TC τ t → Fr 44 45 σ τ → LawC τ (cd ++ c.1) → (cd ++ c.1).length < a → S0 = lpS t (tmS t (recE t e)) 43 45 (-11) (-12) n a c → Go l D cA ad (d + 3) mX4_readSum 12 [.ref 43, .int (iI ((6 - e : Nat) : Int)), .int (iI k), v] [] (atc τ a) K := by
  have ht1 := ht.1
  intro n
  induction n with
  | zero => intro a k v c τ h; omega
  | succ n ih =>
  intro a k v c τ hn hka ha hR hT hfr hL hcl hres
  have hch := ch_lt ht (sk t a)
  have hsk := sk_le ha
  have hsg := sk_ge t a
  refine go_iload_n dX4_readSum_12 rfl ?_
  refine go_sipush (v := iI 240) dX4_readSum_13 (by decide) ?_
  refine go_icmp_ge (tgt := 90) dX4_readSum_16 (by decide) (fun h16 => ?_) (fun h16 => ?_)
  · exfalso
    rw [iI_le (by omega)] at h16
    omega
  · refine go_aload_n dX4_readSum_19 rfl ?_
    refine go_getR fX4_18 dX4_readSum_20 rfl (hR _ _ _ rfl) ?_
    refine go_callV (as := []) wX4_35 dX4_readSum_23 rfl rfl rfl rfl (Nat.le_of_ble_eq_true rfl) (ct_X8_look ht hR hT ha ?_)
    refine go_istore_n dX4_readSum_26 (Nat.le_of_ble_eq_true rfl) rfl ?_
    refine go_iload_n dX4_readSum_27 rfl ?_
    refine go_bipush (v := iI 43) dX4_readSum_28 (by decide) ?_
    refine go_icmp_eq (tgt := 41) dX4_readSum_30 (by decide) (fun h30 => ?_) (fun h30 => ?_)
    · rw [iI_eq (by omega)] at h30
      refine go_aload_n dX4_readSum_41 rfl ?_
      refine go_getR fX4_18 dX4_readSum_42 rfl (hR _ _ _ rfl) ?_
      refine go_dup dX4_readSum_45 rfl ?_
      refine go_getI fX4_22 dX4_readSum_46 rfl ?_
      refine go_iconst (v := iI 1) dX4_readSum_49 (by decide) ?_
      refine go_iadd dX4_readSum_50 ?_
      refine go_putI fX4_22 rfl dX4_readSum_51 rfl rfl rfl ?_
      rw [atc_inc]
      have hp1 := sk_lt_of (t := t) (a := a) (c := ch t (sk t a)) rfl (by omega)
      refine go_aload_n dX4_readSum_54 rfl ?_
      refine go_iload_n dX4_readSum_55 rfl ?_
      refine go_callV (as := [_]) wX4_76 dX4_readSum_56 rfl rfl rfl rfl (Nat.le_of_ble_eq_true rfl) (hit τ _ (sk t a + 1) (cd ++ c.1) hR hT hp1 hL (by omega) (fun q τ' fr hq => ?_) (fun q x τ' fr hq hL' => ?_))
      · refine go_if_ne (tgt := 64) dX4_readSum_59 (by decide) (fun h59 => ?_) (fun h59 => ?_)
        · exact absurd h59 (by decide)
        · refine go_iconst (v := iI 0) dX4_readSum_62 (by decide) ?_
          refine go_iret rfl rfl dX4_readSum_63 ?_
          exact hK1 _ _ (hfr.tr fr) (hres.trans (lpS_1 h30 hq))
      · have hgi := hgd (sk t a + 1) hp1
        rw [hq] at hgi
        have hg2 := hgi.2.2 x rfl
        dsimp only at hgi hg2
        have hR' : RO τ' := fr.RO hR
        have hT' : TC τ' t := fr.TC hT (by decide)
        refine go_if_ne (tgt := 64) dX4_readSum_59 (by decide) (fun h59 => ?_) (fun h59 => ?_)
        · refine go_aload_n dX4_readSum_64 rfl ?_
          refine go_getR fX4_12 dX4_readSum_65 rfl (hR' _ _ _ rfl) ?_
          refine go_iload_n dX4_readSum_68 rfl ?_
          refine go_bipush (v := iI 43) dX4_readSum_69 (by decide) ?_
          refine go_icmp_ne (tgt := 79) dX4_readSum_71 (by decide) (fun h71 => ?_) (fun h71 => ?_)
          · exfalso
            rw [iI_eq (by omega)] at h71
            omega
          · refine go_bipush (v := iI (-11)) dX4_readSum_74 (by decide) ?_
            refine go_goto (tgt := 81) dX4_readSum_76 (by decide) ?_
            refine go_callV (as := [_]) wX4_49 dX4_readSum_81 rfl rfl rfl rfl (Nat.le_of_ble_eq_true rfl) (ct_X3_put hR' hL' (by simp only [List.length_append] at hcl ⊢; omega) (fun τ2 fr2 hL2 => ?_))
            refine go_iincI dX4_readSum_84 rfl (Nat.le_of_ble_eq_true rfl) rfl ?_
            refine go_goto (tgt := 12) dX4_readSum_87 (by decide) ?_
            simp only [List.set, iI_add]
            rw [cvB_code] at hL2
            exact ih q (k + 1) _ (cvB (-11) c x) τ2 (by omega) (by omega) hgi.1 (fr2.RO hR') (fr2.TC hT' (by decide)) ((hfr.tr fr).tr fr2) hL2 (by have := hcl; unfold cvB; simp only [List.length_append, List.length_cons, List.length_nil] at this ⊢; omega) (hres.trans (lpS_2 h30 hq))
        · exact absurd h59 (by decide)
    · rw [iI_eq (by omega)] at h30
      refine go_iload_n dX4_readSum_33 rfl ?_
      refine go_bipush (v := iI 45) dX4_readSum_34 (by decide) ?_
      refine go_icmp_eq (tgt := 41) dX4_readSum_36 (by decide) (fun h36 => ?_) (fun h36 => ?_)
      · rw [iI_eq (by omega)] at h36
        refine go_aload_n dX4_readSum_41 rfl ?_
        refine go_getR fX4_18 dX4_readSum_42 rfl (hR _ _ _ rfl) ?_
        refine go_dup dX4_readSum_45 rfl ?_
        refine go_getI fX4_22 dX4_readSum_46 rfl ?_
        refine go_iconst (v := iI 1) dX4_readSum_49 (by decide) ?_
        refine go_iadd dX4_readSum_50 ?_
        refine go_putI fX4_22 rfl dX4_readSum_51 rfl rfl rfl ?_
        rw [atc_inc]
        have hp1 := sk_lt_of (t := t) (a := a) (c := ch t (sk t a)) rfl (by omega)
        refine go_aload_n dX4_readSum_54 rfl ?_
        refine go_iload_n dX4_readSum_55 rfl ?_
        refine go_callV (as := [_]) wX4_76 dX4_readSum_56 rfl rfl rfl rfl (Nat.le_of_ble_eq_true rfl) (hit τ _ (sk t a + 1) (cd ++ c.1) hR hT hp1 hL (by omega) (fun q τ' fr hq => ?_) (fun q x τ' fr hq hL' => ?_))
        · refine go_if_ne (tgt := 64) dX4_readSum_59 (by decide) (fun h59 => ?_) (fun h59 => ?_)
          · exact absurd h59 (by decide)
          · refine go_iconst (v := iI 0) dX4_readSum_62 (by decide) ?_
            refine go_iret rfl rfl dX4_readSum_63 ?_
            exact hK1 _ _ (hfr.tr fr) (hres.trans (lpS_3 h30 h36 hq))
        · have hgi := hgd (sk t a + 1) hp1
          rw [hq] at hgi
          have hg2 := hgi.2.2 x rfl
          dsimp only at hgi hg2
          have hR' : RO τ' := fr.RO hR
          have hT' : TC τ' t := fr.TC hT (by decide)
          refine go_if_ne (tgt := 64) dX4_readSum_59 (by decide) (fun h59 => ?_) (fun h59 => ?_)
          · refine go_aload_n dX4_readSum_64 rfl ?_
            refine go_getR fX4_12 dX4_readSum_65 rfl (hR' _ _ _ rfl) ?_
            refine go_iload_n dX4_readSum_68 rfl ?_
            refine go_bipush (v := iI 43) dX4_readSum_69 (by decide) ?_
            refine go_icmp_ne (tgt := 79) dX4_readSum_71 (by decide) (fun h71 => ?_) (fun h71 => ?_)
            · refine go_bipush (v := iI (-12)) dX4_readSum_79 (by decide) ?_
              refine go_callV (as := [_]) wX4_49 dX4_readSum_81 rfl rfl rfl rfl (Nat.le_of_ble_eq_true rfl) (ct_X3_put hR' hL' (by simp only [List.length_append] at hcl ⊢; omega) (fun τ2 fr2 hL2 => ?_))
              refine go_iincI dX4_readSum_84 rfl (Nat.le_of_ble_eq_true rfl) rfl ?_
              refine go_goto (tgt := 12) dX4_readSum_87 (by decide) ?_
              simp only [List.set, iI_add]
              rw [cvB_code] at hL2
              exact ih q (k + 1) _ (cvB (-12) c x) τ2 (by omega) (by omega) hgi.1 (fr2.RO hR') (fr2.TC hT' (by decide)) ((hfr.tr fr).tr fr2) hL2 (by have := hcl; unfold cvB; simp only [List.length_append, List.length_cons, List.length_nil] at this ⊢; omega) (hres.trans (lpS_4 h30 h36 hq))
            · exfalso
              rw [iI_eq (by omega)] at h71
              omega
          · exact absurd h59 (by decide)
      · rw [iI_eq (by omega)] at h36
        refine go_iconst (v := iI 1) dX4_readSum_39 (by decide) ?_
        refine go_iret rfl rfl dX4_readSum_40 ?_
        exact hK2 _ _ _ hfr (hres.trans (lpS_5 h30 h36)) hL
theorem sm_C {l : Launch} {D : va_G} {cA ad : Nat → Nat} {t : List Nat} {d e : Nat} (ht : TOK t) (hgd : GD t (tmS t (recE t e))) (hit : PrsC l D cA ad t (d + 2) mX4_readTerm [.int (iI ((6 - e : Nat) : Int))] (tmS t (recE t e))) : PrsC l D cA ad t (d + 3) mX4_readSum [.int (iI ((6 - e : Nat) : Int))] (rnS t (tmS t (recE t e)) 43 45 (-11) (-12)) := by
  intro τ K a cd hR hT ha hL hcd hK1 hK2
  have ht1 := ht.1
  refine call_go (by decide) (Nat.le_of_ble_eq_true rfl) (show Go l D cA ad (d + 3) mX4_readSum 0 [.ref 43, .int (iI ((6 - e : Nat) : Int)), .null, .null] [] (atc τ a) K from ?_)
  refine go_aload_n dX4_readSum_0 rfl ?_
  refine go_iload_n dX4_readSum_1 rfl ?_
  refine go_callV (as := [_]) wX4_76 dX4_readSum_2 rfl rfl rfl rfl (Nat.le_of_ble_eq_true rfl) (hit τ _ a cd hR hT ha hL hcd (fun q τ' fr hq => ?_) (fun q x τ' fr hq hL' => ?_))
  · refine go_if_ne (tgt := 10) dX4_readSum_5 (by decide) (fun h5 => ?_) (fun h5 => ?_)
    · exact absurd h5 (by decide)
    · refine go_iconst (v := iI 0) dX4_readSum_8 (by decide) ?_
      refine go_iret rfl rfl dX4_readSum_9 ?_
      exact hK1 _ _ fr (rnS_0 hq)
  · have hgi := hgd a ha
    rw [hq] at hgi
    have hg2 := hgi.2.2 x rfl
    dsimp only at hgi hg2
    refine go_if_ne (tgt := 10) dX4_readSum_5 (by decide) (fun h5 => ?_) (fun h5 => ?_)
    · refine go_iconst (v := iI 0) dX4_readSum_10 (by decide) ?_
      refine go_istore_n dX4_readSum_11 (Nat.le_of_ble_eq_true rfl) rfl ?_
      simp only [List.set]
      exact lp_sm_C ht hgd hit hK1 hK2 242 q 0 _ x τ' (by omega) (by omega) hgi.1 (fr.RO hR) (fr.TC hT (by decide)) fr hL' (by simp only [List.length_append]; omega) (rnS_1 hq)
    · exact absurd h5 (by decide)
theorem sumC {l : Launch} {D : va_G} {cA ad : Nat → Nat} {t : List Nat} (ht : TOK t) : ∀ (e d : Nat), e ≤ 6 → PrsC l D cA ad t (d + (3 * e + 7)) mX4_readSum [.int (iI ((6 - e : Nat) : Int))] (smE t e)
  | 0, d, _ => by
    rw [smE_eq]
    exact sm_C (d := d + 4) ht (tmE_gd 0) (tm_C (d := d + 3) ht (atE_gd 0) (at_C (d := d) ht (by decide) (fun e' h => by omega)))
  | e + 1, d, he => by
    rw [smE_eq, show d + (3 * (e + 1) + 7) = (d + 3 * e + 3) + 4 + 3 by omega]
    refine sm_C ht (tmE_gd (e + 1)) (tm_C (d := d + 3 * e + 3 + 3) ht (atE_gd (e + 1)) (at_C (d := d + 3 * e + 3) ht he (fun e' h => ?_)))
    obtain rfl : e = e' := by omega
    have := sumC (l := l) (D := D) (cA := cA) (ad := ad) ht e d (by omega)
    rw [show d + (3 * e + 7) = d + 3 * e + 3 + 4 by omega] at this
    exact this
