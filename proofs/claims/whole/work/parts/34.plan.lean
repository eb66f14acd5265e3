/-! plans -/
def spG (i : Nat) (c : Int) : Option Nat := (List.range (strB i).length).find? (fun j => sc i j == c)
theorem sG_inj : ∀ i, i < 12 → ∀ a, a < (strB i).length → ∀ b, b < (strB i).length → sc i a = sc i b → a = b := by decide +kernel
theorem spG_some {i : Nat} {c : Int} {j : Nat} (hi : i < 12) (hj : j < (strB i).length) (h : sc i j = c) : spG i c = some j := by
  unfold spG
  cases e : (List.range (strB i).length).find? (fun j => sc i j == c) with
  | none =>
    have := List.find?_eq_none.mp e j (List.mem_range.mpr hj)
    simp [h] at this
  | some k =>
    have h1 := List.find?_some e
    have h2 := List.mem_of_find?_eq_some e
    rw [sG_inj i hi k (List.mem_range.mp h2) j hj (by simp at h1; rw [h1, h])]
theorem spG_none {i : Nat} {c : Int} (h : ∀ j, j < (strB i).length → sc i j ≠ c) : spG i c = none := by
  unfold spG
  rw [List.find?_eq_none]
  intro j hj
  have := h j (List.mem_range.mp hj)
  simpa using this
theorem spG_lt {i : Nat} {c : Int} {j : Nat} (h : spG i c = some j) : j < (strB i).length ∧ sc i j = c := by
  unfold spG at h
  have h1 := List.find?_some h
  have h2 := List.mem_of_find?_eq_some h
  exact ⟨List.mem_range.mp h2, by simpa using h1⟩
theorem sG_511 : (strB 5).length = 4 ∧ (strB 11).length = 4 ∧ ∀ j, j < 4 → sc 5 j = sc 11 j := by decide +kernel
theorem spG_511 (c : Int) : spG 11 c = spG 5 c := by
  cases h : spG 5 c with
  | none =>
    apply spG_none
    intro j hj e
    rw [sG_511.2.1] at hj
    rw [spG_some (i := 5) (j := j) (by decide) (by rw [sG_511.1]; exact hj) (by rw [sG_511.2.2 j hj]; exact e)] at h
    cases h
  | some j =>
    obtain ⟨h1, h2⟩ := spG_lt h
    rw [sG_511.1] at h1
    exact spG_some (by decide) (by rw [sG_511.2.1]; exact h1) (by rw [← sG_511.2.2 j h1]; exact h2)
abbrev ST : Type := Int × Int × Int
def stepS (t : List Nat) (a : Nat) : Nat × Option ST := match spG 5 (ch t (sk t a)) with
  | none => (sk t a, none)
  | some k => if 48 ≤ ch t (sk t (sk t a + 1)) ∧ ch t (sk t (sk t a + 1)) ≤ 57 then
      if k = 3 then
        if 48 ≤ ch t (sk t (sk t (sk t a + 1) + 1)) ∧ ch t (sk t (sk t (sk t a + 1) + 1)) ≤ 57 then (sk t (sk t (sk t a + 1) + 1) + 1, some (3, ch t (sk t (sk t a + 1)) - 48, ch t (sk t (sk t (sk t a + 1) + 1)) - 48))
        else (sk t (sk t (sk t a + 1) + 1), none)
      else (sk t (sk t a + 1) + 1, some (k, ch t (sk t (sk t a + 1)) - 48, -1))
    else (sk t (sk t a + 1), none)
theorem stepS_0 {t : List Nat} {a : Nat} (h : spG 5 (ch t (sk t a)) = none) : stepS t a = (sk t a, none) := by unfold stepS; rw [h]
theorem stepS_1 {t : List Nat} {a k : Nat} (h : spG 5 (ch t (sk t a)) = some k) (h1 : ¬ isD t (sk t (sk t a + 1))) : stepS t a = (sk t (sk t a + 1), none) := by unfold isD at h1; unfold stepS; rw [h]; dsimp only; rw [if_neg h1]
theorem stepS_2 {t : List Nat} {a k : Nat} (h : spG 5 (ch t (sk t a)) = some k) (h1 : isD t (sk t (sk t a + 1))) (hk : k ≠ 3) : stepS t a = (sk t (sk t a + 1) + 1, some ((k : Int), ch t (sk t (sk t a + 1)) - 48, -1)) := by unfold isD at h1; unfold stepS; rw [h]; dsimp only; rw [if_pos h1, if_neg hk]
theorem stepS_3 {t : List Nat} {a : Nat} (h : spG 5 (ch t (sk t a)) = some 3) (h1 : isD t (sk t (sk t a + 1))) (h2 : ¬ isD t (sk t (sk t (sk t a + 1) + 1))) : stepS t a = (sk t (sk t (sk t a + 1) + 1), none) := by unfold isD at h1 h2; unfold stepS; rw [h]; dsimp only; rw [if_pos h1, if_pos rfl, if_neg h2]
theorem stepS_4 {t : List Nat} {a : Nat} (h : spG 5 (ch t (sk t a)) = some 3) (h1 : isD t (sk t (sk t a + 1))) (h2 : isD t (sk t (sk t (sk t a + 1) + 1))) : stepS t a = (sk t (sk t (sk t a + 1) + 1) + 1, some (3, ch t (sk t (sk t a + 1)) - 48, ch t (sk t (sk t (sk t a + 1) + 1)) - 48)) := by unfold isD at h1 h2; unfold stepS; rw [h]; dsimp only; rw [if_pos h1, if_pos rfl, if_pos h2]
def plS (t : List Nat) : Nat → Nat → List ST → Nat × Option (List ST)
  | 0, a, _ => (a, none)
  | n + 1, a, L => match stepS t a with
    | (q, none) => (q, none)
    | (q, some x) => if ch t (sk t q) = -1 then (sk t q, some (L ++ [x])) else if ch t (sk t q) = 59 ∧ L.length + 1 ≠ 16 then plS t n (sk t q + 1) (L ++ [x]) else (sk t q, none)
theorem plS_f {t : List Nat} {n a q : Nat} {L : List ST} (h : stepS t a = (q, none)) : plS t (n + 1) a L = (q, none) := by unfold plS; rw [h]
theorem plS_e {t : List Nat} {n a q : Nat} {L : List ST} {x : ST} (h : stepS t a = (q, some x)) (h1 : ch t (sk t q) = -1) : plS t (n + 1) a L = (sk t q, some (L ++ [x])) := by unfold plS; rw [h]; dsimp only; rw [if_pos h1]
theorem plS_n {t : List Nat} {n a q : Nat} {L : List ST} {x : ST} (h : stepS t a = (q, some x)) (h1 : ch t (sk t q) = 59) (h2 : L.length + 1 ≠ 16) : plS t (n + 1) a L = plS t n (sk t q + 1) (L ++ [x]) := by
  show (match stepS t a with | (q, none) => _ | (q, some x) => _) = _
  rw [h]; dsimp only; rw [if_neg (by omega), if_pos ⟨h1, h2⟩]
theorem plS_x {t : List Nat} {n a q : Nat} {L : List ST} {x : ST} (h : stepS t a = (q, some x)) (h1 : ch t (sk t q) ≠ -1) (h2 : ¬ (ch t (sk t q) = 59 ∧ L.length + 1 ≠ 16)) : plS t (n + 1) a L = (sk t q, none) := by unfold plS; rw [h]; dsimp only; rw [if_neg h1, if_neg h2]
theorem stepS_le {t : List Nat} {a : Nat} (ha : a ≤ t.length) : (stepS t a).1 ≤ t.length := by
  have h0 := sk_le ha
  cases h : spG 5 (ch t (sk t a)) with
  | none => rw [stepS_0 h]; exact h0
  | some k =>
    have h1 := sk_lt_of (t := t) (a := a) (spG_lt h).2.symm (by have := (sc_ok 5 (by decide)).2 k (spG_lt h).1; omega)
    have h2 := sk_le h1
    by_cases d1 : isD t (sk t (sk t a + 1))
    · have l1 := isD_lt d1
      by_cases hk : k = 3
      · subst hk
        have h3 := sk_le (t := t) (a := sk t (sk t a + 1) + 1) l1
        by_cases d2 : isD t (sk t (sk t (sk t a + 1) + 1))
        · rw [stepS_4 h d1 d2]; exact isD_lt d2
        · rw [stepS_3 h d1 d2]; exact h3
      · rw [stepS_2 h d1 hk]; exact l1
    · rw [stepS_1 h d1]; exact h2
/-- a plan at base b of the class: object b, rows b + 1 .. b + 3 -/
def PLC (σ : AS) (b : Nat) (L : List ST) : Prop := σ.1 b 3 = iI L.length ∧ ∀ i x, L[i]? = some x → σ.1 (b + 1) i = iI x.1 ∧ σ.1 (b + 2) i = iI x.2.1 ∧ σ.1 (b + 3) i = iI x.2.2
/-- a plan at place p of the model -/
def PLM (σ : AS) (p : Nat) (L : List ST) : Prop := ∀ i x, L[i]? = some x → σ.1 122 (3 * (16 * p + i)) = iI x.1 ∧ σ.1 122 (3 * (16 * p + i) + 1) = iI x.2.1 ∧ σ.1 122 (3 * (16 * p + i) + 2) = iI x.2.2
theorem cl_nn (n : Nat) (h : n < 1000000) : (iI (n : Nat)).toNatClampNeg = n := cl_n n (by omega)
theorem ct_X7_readStep {l : Launch} {D : va_G} {cA ad : Nat → Nat} {d : Nat} {τ : AS} {K : Option Value → AS → Prop} {t : List Nat} {a i : Nat} (ht : TOK t) (hR : RO τ) (hT : TC τ t) (ha : a ≤ t.length) (hi : i < 16) (hK1 : ∀ q τ', Fr 84 86 τ τ' → stepS t a = (q, none) → K (some (.int (iI 0))) (atc τ' q)) (hK2 : ∀ q x τ', Fr 84 86 τ τ' → stepS t a = (q, some x) → τ'.1 84 = upd (τ.1 84) i (iI x.1) → τ'.1 85 = upd (τ.1 85) i (iI x.2.1) → τ'.1 86 = upd (τ.1 86) i (iI x.2.2) → K (some (.int (iI 1))) (atc τ' q)) : Call l D cA ad (d + 4) mX7_readStep [.ref 83, .ref 1, .int (iI i)] (atc τ a) K := by
  have ht1 := ht.1
  have hch := ch_lt ht (sk t a)
  refine call_go (by decide) (Nat.le_of_ble_eq_true rfl) (show Go l D cA ad (d + 4) mX7_readStep 0 [.ref 83, .ref 1, .int (iI i), .null, .null] [] (atc τ a) K from ?_)
  refine go_aload_n dX7_readStep_0 rfl ?_
  refine go_callV (as := []) wX7_40 dX7_readStep_1 rfl rfl rfl rfl (Nat.le_of_ble_eq_true rfl) (ct_X8_look ht hR hT ha ?_)
  refine go_istore_n dX7_readStep_4 (Nat.le_of_ble_eq_true rfl) rfl ?_
  refine go_iload_n dX7_readStep_5 rfl ?_
  refine go_iconst (v := iI (-1)) dX7_readStep_6 (by decide) ?_
  refine go_icmp_ne (tgt := 14) dX7_readStep_7 (by decide) (fun h7 => ?_) (fun h7 => ?_)
  · rw [iI_eq (by omega)] at h7
    refine go_ldcS (i := 5) (by decide) rfl dX7_readStep_14 ?_
    refine go_iload_n dX7_readStep_16 rfl ?_
    refine go_i2c dX7_readStep_17 ?_
    rw [iI_c (by omega)]
    refine go_callVs (i := 5) (as := [_]) (by decide) wX7_50 rfl dX7_readStep_18 rfl rfl (Nat.le_of_ble_eq_true rfl) (ct_J0_indexOf_0f7a4 (by decide) (by omega) (fun k hk hsc => ?_) (fun hno => ?_))
    · have hsp := spG_some (i := 5) (by decide) hk hsc
      have hk4 : k < 4 := by rw [sG_511.1] at hk; exact hk
      refine go_istore dX7_readStep_21 (Nat.le_of_ble_eq_true rfl) rfl ?_
      refine go_iload dX7_readStep_23 rfl ?_
      refine go_if_ge (tgt := 30) dX7_readStep_25 (by decide) (fun h25 => ?_) (fun h25 => ?_)
      · refine go_aload_n dX7_readStep_30 rfl ?_
        refine go_dup dX7_readStep_31 rfl ?_
        refine go_getI fX7_31 dX7_readStep_32 rfl ?_
        refine go_iconst (v := iI 1) dX7_readStep_35 (by decide) ?_
        refine go_iadd dX7_readStep_36 ?_
        refine go_putI fX7_31 rfl dX7_readStep_37 rfl rfl rfl ?_
        rw [atc_inc]
        have hp1 := sk_lt_of (t := t) (a := a) (c := ch t (sk t a)) rfl h7
        refine go_aload_n dX7_readStep_40 rfl ?_
        refine go_getR fX7_9 dX7_readStep_41 rfl (hR _ _ _ rfl) ?_
        refine go_iload_n dX7_readStep_44 rfl ?_
        refine go_iload dX7_readStep_45 rfl ?_
        refine go_iast dX7_readStep_47 rfl (by exact vp_iI (by omega)) ?_
        rw [cl_nn i (by omega), atc_fd (by decide)]
        refine go_aload_n dX7_readStep_48 rfl ?_
        refine go_getR fX7_15 dX7_readStep_49 rfl (hR _ _ _ rfl) ?_
        refine go_iload_n dX7_readStep_52 rfl ?_
        refine go_aload_n dX7_readStep_53 rfl ?_
        refine go_callV (as := []) wX7_56 dX7_readStep_54 rfl rfl rfl rfl (Nat.le_of_ble_eq_true rfl) (ct_X8_takeDigit ht hR (TC_sI hT (by decide) (by decide)) hp1 (fun d1 => ?_) (fun d1 => ?_))
        · refine go_iast dX7_readStep_57 rfl (by exact vp_iI (by omega)) ?_
          rw [cl_nn i (by omega), atc_fd (by decide)]
          refine go_aload_n dX7_readStep_58 rfl ?_
          refine go_getR fX7_18 dX7_readStep_59 rfl (hR _ _ _ rfl) ?_
          refine go_iload_n dX7_readStep_62 rfl ?_
          refine go_iconst (v := iI (-1)) dX7_readStep_63 (by decide) ?_
          refine go_iast dX7_readStep_64 rfl (by exact vp_iI (by omega)) ?_
          rw [cl_nn i (by omega), atc_fd (by decide)]
          refine go_aload_n dX7_readStep_65 rfl ?_
          refine go_getR fX7_15 dX7_readStep_66 rfl (hR _ _ _ rfl) ?_
          refine go_iload_n dX7_readStep_69 rfl ?_
          refine go_iald dX7_readStep_70 rfl (by exact vp_iI (by omega)) ?_
          refine go_iconst (v := iI (-1)) dX7_readStep_71 (by decide) ?_
          refine go_icmp_eq (tgt := 81) dX7_readStep_72 (by decide) (fun h72 => ?_) (fun h72 => ?_)
          · refine go_aload_n dX7_readStep_81 rfl ?_
            refine go_getR fX7_15 dX7_readStep_82 rfl (hR _ _ _ rfl) ?_
            refine go_iload_n dX7_readStep_85 rfl ?_
            refine go_iald dX7_readStep_86 rfl (by exact vp_iI (by omega)) ?_
            refine go_iconst (v := iI (-1)) dX7_readStep_87 (by decide) ?_
            refine go_icmp_eq (tgt := 95) dX7_readStep_88 (by decide) (fun h88 => ?_) (fun h88 => ?_)
            · refine go_iconst (v := iI 0) dX7_readStep_95 (by decide) ?_
              refine go_iret rfl rfl dX7_readStep_96 ?_
              exact hK1 _ _ (((Fr.rf.sI (by decide) (by decide)).sI (by decide) (by decide)).sI (by decide) (by decide)) (stepS_1 hsp d1)
            · exfalso
              rw [cl_nn i (by omega), atc_ne _ _ _ (by decide), sI_ne _ _ _ _ (by decide), sI_same, upd_same] at h88
              exact h88 rfl
          · exfalso
            rw [cl_nn i (by omega), atc_ne _ _ _ (by decide), sI_ne _ _ _ _ (by decide), sI_same, upd_same] at h72
            exact h72 rfl
        · have l1 := isD_lt d1
          have u1 := d1
          unfold isD at u1
          refine go_iast dX7_readStep_57 rfl (by exact vp_iI (by omega)) ?_
          rw [cl_nn i (by omega), atc_fd (by decide)]
          refine go_aload_n dX7_readStep_58 rfl ?_
          refine go_getR fX7_18 dX7_readStep_59 rfl (hR _ _ _ rfl) ?_
          refine go_iload_n dX7_readStep_62 rfl ?_
          refine go_iconst (v := iI (-1)) dX7_readStep_63 (by decide) ?_
          refine go_iast dX7_readStep_64 rfl (by exact vp_iI (by omega)) ?_
          rw [cl_nn i (by omega), atc_fd (by decide)]
          refine go_aload_n dX7_readStep_65 rfl ?_
          refine go_getR fX7_15 dX7_readStep_66 rfl (hR _ _ _ rfl) ?_
          refine go_iload_n dX7_readStep_69 rfl ?_
          refine go_iald dX7_readStep_70 rfl (by exact vp_iI (by omega)) ?_
          refine go_iconst (v := iI (-1)) dX7_readStep_71 (by decide) ?_
          refine go_icmp_eq (tgt := 81) dX7_readStep_72 (by decide) (fun h72 => ?_) (fun h72 => ?_)
          · exfalso
            rw [cl_nn i (by omega), atc_ne _ _ _ (by decide), sI_ne _ _ _ _ (by decide), sI_same, upd_same, iI_eq (by omega)] at h72
            omega
          · refine go_iload dX7_readStep_75 rfl ?_
            refine go_iconst (v := iI 3) dX7_readStep_77 (by decide) ?_
            refine go_icmp_eq (tgt := 97) dX7_readStep_78 (by decide) (fun h78 => ?_) (fun h78 => ?_)
            · rw [iI_eq (by omega)] at h78
              have hk3 : k = 3 := by omega
              subst hk3
              refine go_aload_n dX7_readStep_97 rfl ?_
              refine go_getR fX7_18 dX7_readStep_98 rfl (hR _ _ _ rfl) ?_
              refine go_iload_n dX7_readStep_101 rfl ?_
              refine go_aload_n dX7_readStep_102 rfl ?_
              refine go_callV (as := []) wX7_56 dX7_readStep_103 rfl rfl rfl rfl (Nat.le_of_ble_eq_true rfl) (ct_X8_takeDigit ht hR (TC_sI (TC_sI (TC_sI hT (by decide) (by decide)) (by decide) (by decide)) (by decide) (by decide)) l1 (fun d2 => ?_) (fun d2 => ?_))
              · refine go_iast dX7_readStep_106 rfl (by exact vp_iI (by omega)) ?_
                rw [cl_nn i (by omega), atc_fd (by decide)]
                refine go_aload_n dX7_readStep_107 rfl ?_
                refine go_getR fX7_18 dX7_readStep_108 rfl (hR _ _ _ rfl) ?_
                refine go_iload_n dX7_readStep_111 rfl ?_
                refine go_iald dX7_readStep_112 rfl (by exact vp_iI (by omega)) ?_
                refine go_iconst (v := iI (-1)) dX7_readStep_113 (by decide) ?_
                refine go_icmp_eq (tgt := 121) dX7_readStep_114 (by decide) (fun h114 => ?_) (fun h114 => ?_)
                · refine go_iconst (v := iI 0) dX7_readStep_121 (by decide) ?_
                  refine go_iret rfl rfl dX7_readStep_122 ?_
                  exact hK1 _ _ ((((Fr.rf.sI (by decide) (by decide)).sI (by decide) (by decide)).sI (by decide) (by decide)).sI (by decide) (by decide)) (stepS_3 hsp d1 d2)
                · exfalso
                  rw [cl_nn i (by omega), atc_ne _ _ _ (by decide), sI_same, upd_same] at h114
                  exact h114 rfl
              · have l2 := isD_lt d2
                have u2 := d2
                unfold isD at u2
                refine go_iast dX7_readStep_106 rfl (by exact vp_iI (by omega)) ?_
                rw [cl_nn i (by omega), atc_fd (by decide)]
                refine go_aload_n dX7_readStep_107 rfl ?_
                refine go_getR fX7_18 dX7_readStep_108 rfl (hR _ _ _ rfl) ?_
                refine go_iload_n dX7_readStep_111 rfl ?_
                refine go_iald dX7_readStep_112 rfl (by exact vp_iI (by omega)) ?_
                refine go_iconst (v := iI (-1)) dX7_readStep_113 (by decide) ?_
                refine go_icmp_eq (tgt := 121) dX7_readStep_114 (by decide) (fun h114 => ?_) (fun h114 => ?_)
                · exfalso
                  rw [cl_nn i (by omega), atc_ne _ _ _ (by decide), sI_same, upd_same, iI_eq (by omega)] at h114
                  omega
                · refine go_iconst (v := iI 1) dX7_readStep_117 (by decide) ?_
                  refine go_goto (tgt := 122) dX7_readStep_118 (by decide) ?_
                  refine go_iret rfl rfl dX7_readStep_122 ?_
                  refine hK2 _ _ _ ((((Fr.rf.sI (by decide) (by decide)).sI (by decide) (by decide)).sI (by decide) (by decide)).sI (by decide) (by decide)) (stepS_4 hsp d1 d2) ?_ ?_ ?_
                  · rw [sI_ne _ _ _ _ (by decide), sI_ne _ _ _ _ (by decide), sI_ne _ _ _ _ (by decide), sI_same]; rfl
                  · rw [sI_ne _ _ _ _ (by decide), sI_ne _ _ _ _ (by decide), sI_same, sI_ne _ _ _ _ (by decide)]
                  · rw [sI_same, sI_same, upd_upd, sI_ne _ _ _ _ (by decide), sI_ne _ _ _ _ (by decide)]
            · rw [iI_eq (by omega)] at h78
              refine go_aload_n dX7_readStep_81 rfl ?_
              refine go_getR fX7_15 dX7_readStep_82 rfl (hR _ _ _ rfl) ?_
              refine go_iload_n dX7_readStep_85 rfl ?_
              refine go_iald dX7_readStep_86 rfl (by exact vp_iI (by omega)) ?_
              refine go_iconst (v := iI (-1)) dX7_readStep_87 (by decide) ?_
              refine go_icmp_eq (tgt := 95) dX7_readStep_88 (by decide) (fun h88 => ?_) (fun h88 => ?_)
              · exfalso
                rw [cl_nn i (by omega), atc_ne _ _ _ (by decide), sI_ne _ _ _ _ (by decide), sI_same, upd_same, iI_eq (by omega)] at h88
                omega
              · refine go_iconst (v := iI 1) dX7_readStep_91 (by decide) ?_
                refine go_goto (tgt := 96) dX7_readStep_92 (by decide) ?_
                refine go_iret rfl rfl dX7_readStep_96 ?_
                refine hK2 _ _ _ (((Fr.rf.sI (by decide) (by decide)).sI (by decide) (by decide)).sI (by decide) (by decide)) (stepS_2 hsp d1 (by omega)) ?_ ?_ ?_
                · rw [sI_ne _ _ _ _ (by decide), sI_ne _ _ _ _ (by decide), sI_same]
                · rw [sI_ne _ _ _ _ (by decide), sI_same, sI_ne _ _ _ _ (by decide)]
                · rw [sI_same, sI_ne _ _ _ _ (by decide), sI_ne _ _ _ _ (by decide)]
      · exfalso
        rw [iI_0le (by omega)] at h25
        omega
    · have hsp := spG_none (i := 5) (c := ch t (sk t a)) hno
      refine go_istore dX7_readStep_21 (Nat.le_of_ble_eq_true rfl) rfl ?_
      refine go_iload dX7_readStep_23 rfl ?_
      refine go_if_ge (tgt := 30) dX7_readStep_25 (by decide) (fun h25 => ?_) (fun h25 => ?_)
      · exact absurd h25 (by decide)
      · refine go_iconst (v := iI 0) dX7_readStep_28 (by decide) ?_
        refine go_iret rfl rfl dX7_readStep_29 ?_
        exact hK1 _ _ Fr.rf (stepS_0 hsp)
  · rw [iI_eq (by omega)] at h7
    have hsp := spG_none (i := 5) (c := ch t (sk t a)) (fun j hj => by have := (sc_ok 5 (by decide)).2 j hj; omega)
    refine go_iconst (v := iI (-1)) dX7_readStep_10 (by decide) ?_
    refine go_goto (tgt := 21) dX7_readStep_11 (by decide) ?_
    refine go_istore dX7_readStep_21 (Nat.le_of_ble_eq_true rfl) rfl ?_
    refine go_iload dX7_readStep_23 rfl ?_
    refine go_if_ge (tgt := 30) dX7_readStep_25 (by decide) (fun h25 => ?_) (fun h25 => ?_)
    · exact absurd h25 (by decide)
    · refine go_iconst (v := iI 0) dX7_readStep_28 (by decide) ?_
      refine go_iret rfl rfl dX7_readStep_29 ?_
      exact hK1 _ _ Fr.rf (stepS_0 hsp)
