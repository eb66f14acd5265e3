/-! small sets of bits -/
theorem b_get : ∀ m, m < 512 → ∀ j, j < 9 → (iI (m : Nat) >>> (iI (j : Nat) &&& 31)) &&& iI 1 = iI ((m / 2 ^ j % 2 : Nat) : Int) := by decide +kernel
theorem b_or : ∀ m, m < 512 → ∀ j, j < 9 → iI (m : Nat) ||| (iI 1 <<< (iI (j : Nat) &&& 31)) = iI ((m ||| 2 ^ j : Nat) : Int) := by decide +kernel
theorem b_shl : ∀ j, j < 9 → iI 1 <<< (iI (j : Nat) &&& 31) = iI ((2 ^ j : Nat) : Int) := by decide +kernel
def pop9 (m : Nat) : Nat := m % 2 + m / 2 % 2 + m / 4 % 2 + m / 8 % 2 + m / 16 % 2 + m / 32 % 2 + m / 64 % 2 + m / 128 % 2 + m / 256 % 2
theorem pop_or : ∀ m, m < 512 → ∀ j, j < 9 → m / 2 ^ j % 2 = 0 → pop9 (m ||| 2 ^ j) = pop9 m + 1 := by decide +kernel
theorem or_lt : ∀ n, n < 10 → ∀ j, j < n → ∀ m, m < 2 ^ n → (m ||| 2 ^ j) < 2 ^ n := by decide +kernel
theorem pw_lt : ∀ n, n < 10 → 2 ^ n ≤ 512 := by decide +kernel
theorem pop_le : ∀ m, m < 512 → ∀ n, n < 10 → m < 2 ^ n → pop9 m ≤ n := by decide +kernel
theorem bit_or : ∀ m, m < 512 → ∀ j, j < 9 → ∀ k, k < 9 → ((m ||| 2 ^ j) / 2 ^ k % 2 = if k = j then 1 else m / 2 ^ k % 2) := by decide +kernel
theorem bit_01 (m j : Nat) : m / 2 ^ j % 2 = 0 ∨ m / 2 ^ j % 2 = 1 := by omega
/-! the number of an item -/
def numS (t : List Nat) (a : Nat) (lo hi : Int) : Nat × Option Int :=
  if 48 ≤ ch t (sk t a) ∧ ch t (sk t a) ≤ 57 then
    if 48 ≤ ch t (sk t a + 1) ∧ ch t (sk t a + 1) ≤ 57 then
      if 48 ≤ ch t (sk t a + 2) ∧ ch t (sk t a + 2) ≤ 57 then (sk t a + 2, none)
      else if lo ≤ 10 * (ch t (sk t a) - 48) + (ch t (sk t a + 1) - 48) ∧ 10 * (ch t (sk t a) - 48) + (ch t (sk t a + 1) - 48) ≤ hi then (sk t a + 2, some (10 * (ch t (sk t a) - 48) + (ch t (sk t a + 1) - 48))) else (sk t a + 1, none)
    else if lo ≤ ch t (sk t a) - 48 ∧ ch t (sk t a) - 48 ≤ hi then (sk t a + 1, some (ch t (sk t a) - 48)) else (sk t a, none)
  else (sk t a, none)
theorem numS_0 {t : List Nat} {a : Nat} {lo hi : Int} (h : ¬ isD t (sk t a)) : numS t a lo hi = (sk t a, none) := if_neg h
theorem numS_3 {t : List Nat} {a : Nat} {lo hi : Int} (h : isD t (sk t a)) (h1 : isD t (sk t a + 1)) (h2 : isD t (sk t a + 2)) : numS t a lo hi = (sk t a + 2, none) := by
  unfold isD at h h1 h2; unfold numS; rw [if_pos h, if_pos h1, if_pos h2]
theorem numS_2 {t : List Nat} {a : Nat} {lo hi : Int} (h : isD t (sk t a)) (h1 : isD t (sk t a + 1)) (h2 : ¬ isD t (sk t a + 2)) : numS t a lo hi = if lo ≤ 10 * (ch t (sk t a) - 48) + (ch t (sk t a + 1) - 48) ∧ 10 * (ch t (sk t a) - 48) + (ch t (sk t a + 1) - 48) ≤ hi then (sk t a + 2, some (10 * (ch t (sk t a) - 48) + (ch t (sk t a + 1) - 48))) else (sk t a + 1, none) := by
  unfold isD at h h1 h2; unfold numS; rw [if_pos h, if_pos h1, if_neg h2]
theorem numS_1 {t : List Nat} {a : Nat} {lo hi : Int} (h : isD t (sk t a)) (h1 : ¬ isD t (sk t a + 1)) : numS t a lo hi = if lo ≤ ch t (sk t a) - 48 ∧ ch t (sk t a) - 48 ≤ hi then (sk t a + 1, some (ch t (sk t a) - 48)) else (sk t a, none) := by
  unfold isD at h h1; unfold numS; rw [if_pos h, if_neg h1]
theorem ct_X12_isIn {l : Launch} {D : va_G} {cA ad : Nat → Nat} {d : Nat} {σ : AS} {K : Option Value → AS → Prop} {v a b : Int64} (hK : K (some (.int (if a.toInt ≤ v.toInt ∧ v.toInt ≤ b.toInt then iI 1 else iI 0))) σ) : Call l D cA ad d mX12_isIn [.long v, .long a, .long b] σ K := by
  refine call_go (by decide) (Nat.le_of_ble_eq_true rfl) (show Go l D cA ad d mX12_isIn 0 [.long v, .null, .long a, .null, .long b, .null] [] σ K from ?_)
  refine go_lload_n dX12_isIn_0 rfl ?_
  refine go_lload_n dX12_isIn_1 rfl ?_
  refine go_lcmp dX12_isIn_2 ?_
  refine go_if_lt (tgt := 17) dX12_isIn_3 (by decide) (fun h3 => ?_) (fun h3 => ?_)
  · refine go_iconst (v := iI 0) dX12_isIn_17 (by decide) ?_
    refine go_iret rfl rfl dX12_isIn_18 ?_
    simp only [lg_cmp_lt, lg_cmp_gt, Int64.lt_iff_toInt_lt] at h3
    first | (rw [if_pos (by omega)] at hK; exact hK) | (rw [if_neg (by omega)] at hK; exact hK)
  · refine go_lload_n dX12_isIn_6 rfl ?_
    refine go_lload dX12_isIn_7 rfl ?_
    refine go_lcmp dX12_isIn_9 ?_
    refine go_if_gt (tgt := 17) dX12_isIn_10 (by decide) (fun h10 => ?_) (fun h10 => ?_)
    · refine go_iconst (v := iI 0) dX12_isIn_17 (by decide) ?_
      refine go_iret rfl rfl dX12_isIn_18 ?_
      simp only [lg_cmp_lt, lg_cmp_gt, Int64.lt_iff_toInt_lt] at h3 h10
      first | (rw [if_pos (by omega)] at hK; exact hK) | (rw [if_neg (by omega)] at hK; exact hK)
    · refine go_iconst (v := iI 1) dX12_isIn_13 (by decide) ?_
      refine go_goto (tgt := 18) dX12_isIn_14 (by decide) ?_
      refine go_iret rfl rfl dX12_isIn_18 ?_
      simp only [lg_cmp_lt, lg_cmp_gt, Int64.lt_iff_toInt_lt] at h3 h10
      first | (rw [if_pos (by omega)] at hK; exact hK) | (rw [if_neg (by omega)] at hK; exact hK)

theorem ct_X12_has {l : Launch} {D : va_G} {cA ad : Nat → Nat} {d : Nat} {σ : AS} {K : Option Value → AS → Prop} {m j : Nat} (hm : m < 512) (hj : j < 9) (hK : K (some (.int (iI ((m / 2 ^ j % 2 : Nat) : Int)))) σ) : Call l D cA ad d mX12_has [.int (iI m), .int (iI j)] σ K := by
  refine call_go (by decide) (Nat.le_of_ble_eq_true rfl) (show Go l D cA ad d mX12_has 0 [.int (iI m), .int (iI j)] [] σ K from ?_)
  refine go_iload_n dX12_has_0 rfl ?_
  refine go_iload_n dX12_has_1 rfl ?_
  refine go_ishr dX12_has_2 ?_
  refine go_iconst (v := iI 1) dX12_has_3 (by decide) ?_
  refine go_iand dX12_has_4 ?_
  refine go_iconst (v := iI 1) dX12_has_5 (by decide) ?_
  refine go_icmp_ne (tgt := 13) dX12_has_6 (by decide) (fun h6 => ?_) (fun h6 => ?_)
  · rw [b_get m hm j hj, iI_eq (by omega)] at h6
    refine go_iconst (v := iI 0) dX12_has_13 (by decide) ?_
    refine go_iret rfl rfl dX12_has_14 ?_
    rcases bit_01 m j with q | q
    · first | (rw [q] at hK; exact hK) | omega
    · first | (rw [q] at hK; exact hK) | omega
  · rw [b_get m hm j hj, iI_eq (by omega)] at h6
    refine go_iconst (v := iI 1) dX12_has_9 (by decide) ?_
    refine go_goto (tgt := 14) dX12_has_10 (by decide) ?_
    refine go_iret rfl rfl dX12_has_14 ?_
    rcases bit_01 m j with q | q
    · first | (rw [q] at hK; exact hK) | omega
    · first | (rw [q] at hK; exact hK) | omega

theorem ct_X12_number {l : Launch} {D : va_G} {cA ad : Nat → Nat} {d : Nat} {σ : AS} {K : Option Value → AS → Prop} {t : List Nat} {tx b a : Nat} {lo hi : Int} (ht : TOK t) (hX : TX σ tx b t) (ha : a ≤ t.length) (hlo : 0 ≤ lo ∧ lo ≤ 1000) (hhi : 0 ≤ hi ∧ hi ≤ 1000)
  (hK1 : ∀ q, numS t a lo hi = (q, none) → ∀ v, K (some (.int v)) (msa σ q q)) (hK2 : ∀ q v, numS t a lo hi = (q, some v) → K (some (.int (iI v))) (msa σ q (-1))) : Call l D cA ad (d + 2) mX12_number [.ref 111, .int (iI lo), .int (iI hi)] (msa σ a (-1)) K := by
  have ht1 := ht.1
  have hsk := sk_le ha
  refine call_go (by decide) (Nat.le_of_ble_eq_true rfl) (show Go l D cA ad (d + 2) mX12_number 0 [.ref 111, .int (iI lo), .int (iI hi), .null, .null] [] (msa σ a (-1)) K from ?_)
  refine go_aload_n dX12_number_0 rfl ?_
  refine go_callV (as := []) wX12_138 dX12_number_1 rfl rfl rfl rfl (Nat.le_of_ble_eq_true rfl) (ct_X12_look ht hX ha ?_)
  refine go_istore_n dX12_number_4 (Nat.le_of_ble_eq_true rfl) rfl ?_
  refine go_aload_n dX12_number_5 rfl ?_
  refine go_callV (as := []) wX12_168 dX12_number_6 rfl rfl rfl rfl (Nat.le_of_ble_eq_true rfl) (ct_X12_isDigit ht hX hsk (fun d0 => ?_) (fun d0 => ?_))
  · refine go_if_ne (tgt := 19) dX12_number_9 (by decide) (fun h9 => ?_) (fun h9 => ?_)
    · exact absurd h9 (by decide)
    · refine go_aload_n dX12_number_12 rfl ?_
      refine go_callV (as := []) wX12_134 dX12_number_13 rfl rfl rfl rfl (Nat.le_of_ble_eq_true rfl) (ct_X12_fails ?_)
      refine go_pop dX12_number_16 rfl ?_
      refine go_iconst (v := iI 0) dX12_number_17 (by decide) ?_
      refine go_iret rfl rfl dX12_number_18 ?_
      exact hK1 _ (numS_0 d0) _
  · have l0 := isD_lt d0
    have d0u := d0
    unfold isD at d0u
    refine go_if_ne (tgt := 19) dX12_number_9 (by decide) (fun h9 => ?_) (fun h9 => ?_)
    · refine go_iload_n dX12_number_19 rfl ?_
      refine go_bipush (v := iI 48) dX12_number_20 (by decide) ?_
      refine go_isub dX12_number_22 ?_
      refine go_istore dX12_number_23 (Nat.le_of_ble_eq_true rfl) rfl ?_
      refine go_aload_n dX12_number_25 rfl ?_
      refine go_dup dX12_number_26 rfl ?_
      refine go_getI fX12_119 dX12_number_27 rfl ?_
      refine go_iconst (v := iI 1) dX12_number_30 (by decide) ?_
      refine go_iadd dX12_number_31 ?_
      refine go_putI fX12_119 rfl dX12_number_32 rfl rfl rfl ?_
      rw [msa_inc]
      refine go_aload_n dX12_number_35 rfl ?_
      refine go_callV (as := []) wX12_168 dX12_number_36 rfl rfl rfl rfl (Nat.le_of_ble_eq_true rfl) (ct_X12_isDigit ht hX (by omega) (fun d1 => ?_) (fun d1 => ?_))
      · have hnum := numS_1 (lo := lo) (hi := hi) d0 d1
        refine go_if_eq (tgt := 67) dX12_number_39 (by decide) (fun h39 => ?_) (fun h39 => ?_)
        · have e4 : iI (ch t (sk t a)) - iI 48 = iI (ch t (sk t a) - 48) := iI_sub _ _
          simp only [List.set, e4]
          refine go_aload_n dX12_number_67 rfl ?_
          refine go_callV (as := []) wX12_168 dX12_number_68 rfl rfl rfl rfl (Nat.le_of_ble_eq_true rfl) (ct_X12_isDigit ht hX (by omega) (fun d2 => ?_) (fun d2 => ?_))
          · refine go_if_eq (tgt := 81) dX12_number_71 (by decide) (fun h71 => ?_) (fun h71 => ?_)
            · refine go_iload dX12_number_81 rfl ?_
              refine go_i2l dX12_number_83 ?_
              refine go_iload_n dX12_number_84 rfl ?_
              refine go_i2l dX12_number_85 ?_
              refine go_iload_n dX12_number_86 rfl ?_
              refine go_i2l dX12_number_87 ?_
              refine go_callS (as := [_, _, _]) wX12_217 dX12_number_88 rfl rfl (Nat.le_of_ble_eq_true rfl) (ct_X12_isIn ?_)
              simp only [Int32.toInt_toInt64, iI_toInt (show -2147483648 ≤ lo by omega) (show lo < 2147483648 by omega), iI_toInt (show -2147483648 ≤ hi by omega) (show hi < 2147483648 by omega), iI_toInt (show -2147483648 ≤ (ch t (sk t a) - 48) by omega) (show (ch t (sk t a) - 48) < 2147483648 by omega)]
              refine go_if_ne (tgt := 109) dX12_number_91 (by decide) (fun h91 => ?_) (fun h91 => ?_)
              · have hin : lo ≤ (ch t (sk t a) - 48) ∧ (ch t (sk t a) - 48) ≤ hi := by
                  by_cases q : lo ≤ (ch t (sk t a) - 48) ∧ (ch t (sk t a) - 48) ≤ hi
                  · exact q
                  · rw [if_neg q] at h91; exact absurd (by decide) h91
                refine go_iload dX12_number_109 rfl ?_
                refine go_iret rfl rfl dX12_number_111 ?_
                first | exact hK2 _ _ (by rw [hnum, if_pos hin]) | exact hK1 _ (by rw [hnum, if_neg hin]) _
              · have hin : ¬ (lo ≤ (ch t (sk t a) - 48) ∧ (ch t (sk t a) - 48) ≤ hi) := by
                  intro q
                  rw [if_pos q] at h91
                  exact absurd h91 (by decide)
                refine go_aload_n dX12_number_94 rfl ?_
                refine go_dup dX12_number_95 rfl ?_
                refine go_getI fX12_119 dX12_number_96 rfl ?_
                refine go_iconst (v := iI 1) dX12_number_99 (by decide) ?_
                refine go_isub dX12_number_100 ?_
                refine go_putI fX12_119 rfl dX12_number_101 rfl rfl rfl ?_
                rw [msa_dec]
                refine go_aload_n dX12_number_104 rfl ?_
                refine go_callV (as := []) wX12_134 dX12_number_105 rfl rfl rfl rfl (Nat.le_of_ble_eq_true rfl) (ct_X12_fails ?_)
                refine go_pop dX12_number_108 rfl ?_
                refine go_iload dX12_number_109 rfl ?_
                refine go_iret rfl rfl dX12_number_111 ?_
                first | exact hK2 _ _ (by rw [hnum, if_pos hin]) | exact hK1 _ (by rw [hnum, if_neg hin]) _
            · exact absurd h71 (by decide)
          · exact absurd d2 d1
        · exact absurd h39 (by decide)
      · have l1 := isD_lt d1
        have d1u := d1
        unfold isD at d1u
        refine go_if_eq (tgt := 67) dX12_number_39 (by decide) (fun h39 => ?_) (fun h39 => ?_)
        · exact absurd h39 (by decide)
        · refine go_bipush (v := iI 10) dX12_number_42 (by decide) ?_
          refine go_iload dX12_number_44 rfl ?_
          refine go_imul dX12_number_46 ?_
          refine go_aload_n dX12_number_47 rfl ?_
          refine go_callV (as := []) wX12_214 dX12_number_48 rfl rfl rfl rfl (Nat.le_of_ble_eq_true rfl) (ct_X12_here ht hX (by omega) ?_)
          refine go_iadd dX12_number_51 ?_
          refine go_bipush (v := iI 48) dX12_number_52 (by decide) ?_
          refine go_isub dX12_number_54 ?_
          refine go_istore dX12_number_55 (Nat.le_of_ble_eq_true rfl) rfl ?_
          refine go_aload_n dX12_number_57 rfl ?_
          refine go_dup dX12_number_58 rfl ?_
          refine go_getI fX12_119 dX12_number_59 rfl ?_
          refine go_iconst (v := iI 1) dX12_number_62 (by decide) ?_
          refine go_iadd dX12_number_63 ?_
          refine go_putI fX12_119 rfl dX12_number_64 rfl rfl rfl ?_
          rw [msa_inc]
          have e4 : iI 10 * (iI (ch t (sk t a)) - iI 48) + iI (ch t (sk t a + 1)) - iI 48 = iI (10 * (ch t (sk t a) - 48) + (ch t (sk t a + 1) - 48)) := by rw [iI_sub, iI_mul, iI_add, iI_sub]; congr 1; omega
          simp only [List.set, e4]
          refine go_aload_n dX12_number_67 rfl ?_
          refine go_callV (as := []) wX12_168 dX12_number_68 rfl rfl rfl rfl (Nat.le_of_ble_eq_true rfl) (ct_X12_isDigit ht hX (by omega) (fun d2 => ?_) (fun d2 => ?_))
          · have hnum := numS_2 (lo := lo) (hi := hi) d0 d1 d2
            refine go_if_eq (tgt := 81) dX12_number_71 (by decide) (fun h71 => ?_) (fun h71 => ?_)
            · refine go_iload dX12_number_81 rfl ?_
              refine go_i2l dX12_number_83 ?_
              refine go_iload_n dX12_number_84 rfl ?_
              refine go_i2l dX12_number_85 ?_
              refine go_iload_n dX12_number_86 rfl ?_
              refine go_i2l dX12_number_87 ?_
              refine go_callS (as := [_, _, _]) wX12_217 dX12_number_88 rfl rfl (Nat.le_of_ble_eq_true rfl) (ct_X12_isIn ?_)
              simp only [Int32.toInt_toInt64, iI_toInt (show -2147483648 ≤ lo by omega) (show lo < 2147483648 by omega), iI_toInt (show -2147483648 ≤ hi by omega) (show hi < 2147483648 by omega), iI_toInt (show -2147483648 ≤ (10 * (ch t (sk t a) - 48) + (ch t (sk t a + 1) - 48)) by omega) (show (10 * (ch t (sk t a) - 48) + (ch t (sk t a + 1) - 48)) < 2147483648 by omega)]
              refine go_if_ne (tgt := 109) dX12_number_91 (by decide) (fun h91 => ?_) (fun h91 => ?_)
              · have hin : lo ≤ (10 * (ch t (sk t a) - 48) + (ch t (sk t a + 1) - 48)) ∧ (10 * (ch t (sk t a) - 48) + (ch t (sk t a + 1) - 48)) ≤ hi := by
                  by_cases q : lo ≤ (10 * (ch t (sk t a) - 48) + (ch t (sk t a + 1) - 48)) ∧ (10 * (ch t (sk t a) - 48) + (ch t (sk t a + 1) - 48)) ≤ hi
                  · exact q
                  · rw [if_neg q] at h91; exact absurd (by decide) h91
                refine go_iload dX12_number_109 rfl ?_
                refine go_iret rfl rfl dX12_number_111 ?_
                first | exact hK2 _ _ (by rw [hnum, if_pos hin]) | exact hK1 _ (by rw [hnum, if_neg hin]) _
              · have hin : ¬ (lo ≤ (10 * (ch t (sk t a) - 48) + (ch t (sk t a + 1) - 48)) ∧ (10 * (ch t (sk t a) - 48) + (ch t (sk t a + 1) - 48)) ≤ hi) := by
                  intro q
                  rw [if_pos q] at h91
                  exact absurd h91 (by decide)
                refine go_aload_n dX12_number_94 rfl ?_
                refine go_dup dX12_number_95 rfl ?_
                refine go_getI fX12_119 dX12_number_96 rfl ?_
                refine go_iconst (v := iI 1) dX12_number_99 (by decide) ?_
                refine go_isub dX12_number_100 ?_
                refine go_putI fX12_119 rfl dX12_number_101 rfl rfl rfl ?_
                rw [msa_dec]
                refine go_aload_n dX12_number_104 rfl ?_
                refine go_callV (as := []) wX12_134 dX12_number_105 rfl rfl rfl rfl (Nat.le_of_ble_eq_true rfl) (ct_X12_fails ?_)
                refine go_pop dX12_number_108 rfl ?_
                refine go_iload dX12_number_109 rfl ?_
                refine go_iret rfl rfl dX12_number_111 ?_
                first | exact hK2 _ _ (by rw [hnum, if_pos hin]) | exact hK1 _ (by rw [hnum, if_neg hin]) _
            · exact absurd h71 (by decide)
          · refine go_if_eq (tgt := 81) dX12_number_71 (by decide) (fun h71 => ?_) (fun h71 => ?_)
            · exact absurd h71 (by decide)
            · refine go_aload_n dX12_number_74 rfl ?_
              refine go_callV (as := []) wX12_134 dX12_number_75 rfl rfl rfl rfl (Nat.le_of_ble_eq_true rfl) (ct_X12_fails ?_)
              refine go_pop dX12_number_78 rfl ?_
              refine go_iconst (v := iI 0) dX12_number_79 (by decide) ?_
              refine go_iret rfl rfl dX12_number_80 ?_
              exact hK1 _ (numS_3 d0 d1 d2) _
    · exact absurd h9 (by decide)

