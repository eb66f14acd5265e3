/-! items of a clause: kind κ (0 sky, 1 pond, 2 pipe) -/
def kN (κ : Nat) : Nat := [3, 9, 5].getD κ 0
def loK (κ j : Nat) : Int := ([[0, 0, 0], [0, 1, 0, 0, 0, 0, 0, 0, 0], [0, 0, 1, 0, 0]].getD κ []).getD j 0
def hiK (κ j : Nat) : Int := ([[9, 9, 9], [99, 99, 9, 99, 9, 99, 99, 99, 9], [6, 6, 9, 99, 1]].getD κ []).getD j 0
def unK (κ j : Nat) : Int := ([[0, 1, 5], [30, 60, 0, 10, 0, 50, 25, 0, 0], [0, 1, 3, 0, 0]].getD κ []).getD j 0
theorem kN_ok : ∀ κ, κ < 3 → (strB κ).length = kN κ ∧ (strB (8 + κ)).length = kN κ ∧ kN κ ≤ 9 ∧ 1 ≤ kN κ ∧ (stV (3 * κ)).length = kN κ ∧ (stV (3 * κ + 1)).length = kN κ ∧ (stV (3 * κ + 2)).length = kN κ := by decide +kernel
theorem kV_ok : ∀ κ, κ < 3 → ∀ j, j < kN κ → (stV (3 * κ)).getD j 0 = iI (unK κ j) ∧ (stV (3 * κ + 1)).getD j 0 = iI (loK κ j) ∧ (stV (3 * κ + 2)).getD j 0 = iI (hiK κ j) ∧ 0 ≤ loK κ j ∧ loK κ j ≤ 1 ∧ 0 ≤ hiK κ j ∧ hiK κ j ≤ 99 ∧ sc κ j = sc (8 + κ) j ∧ sc κ j ≠ 59 ∧ 0 < sc κ j ∧ sc κ j < 128 := by decide +kernel
theorem kS_inj : ∀ κ, κ < 3 → ∀ i, i < kN κ → ∀ j, j < kN κ → sc κ i = sc κ j → i = j := by decide +kernel
def spS (κ : Nat) (c : Int) : Option Nat := (List.range (kN κ)).find? (fun j => sc κ j == c)
theorem spS_some {κ : Nat} {c : Int} {j : Nat} (hκ : κ < 3) (hj : j < kN κ) (h : sc κ j = c) : spS κ c = some j := by
  unfold spS
  cases e : (List.range (kN κ)).find? (fun j => sc κ j == c) with
  | none =>
    have := List.find?_eq_none.mp e j (List.mem_range.mpr hj)
    simp [h] at this
  | some i =>
    have h1 := List.find?_some e
    have h2 := List.mem_of_find?_eq_some e
    rw [kS_inj κ hκ i (List.mem_range.mp h2) j hj (by simp at h1; rw [h1, h])]
theorem spS_none {κ : Nat} {c : Int} (h : ∀ j, j < kN κ → sc κ j ≠ c) : spS κ c = none := by
  unfold spS
  rw [List.find?_eq_none]
  intro j hj
  have := h j (List.mem_range.mp hj)
  simpa using this
def itS (t : List Nat) (κ : Nat) : Nat → Nat → Nat → (Nat → Int) → Nat × Bool × (Nat → Int)
  | 0, a, _, row => (a, false, row)
  | n + 1, a, m, row => match spS κ (ch t (sk t a)) with
    | none => (sk t a, true, row)
    | some j => if m / 2 ^ j % 2 = 1 then (sk t a, false, row) else match numS t (sk t a + 1) (loK κ j) (hiK κ j) with
      | (q, none) => (q, false, row)
      | (q, some v) => itS t κ n q (m ||| 2 ^ j) (fun i => if i = j then v else row i)
theorem itS_none {t : List Nat} {κ n a m : Nat} {row : Nat → Int} (h : spS κ (ch t (sk t a)) = none) : itS t κ (n + 1) a m row = (sk t a, true, row) := by unfold itS; rw [h]
theorem itS_dup {t : List Nat} {κ n a m j : Nat} {row : Nat → Int} (h : spS κ (ch t (sk t a)) = some j) (hm : m / 2 ^ j % 2 = 1) : itS t κ (n + 1) a m row = (sk t a, false, row) := by unfold itS; rw [h]; exact if_pos hm
theorem itS_bad {t : List Nat} {κ n a m j q : Nat} {row : Nat → Int} (h : spS κ (ch t (sk t a)) = some j) (hm : m / 2 ^ j % 2 = 0) (hq : numS t (sk t a + 1) (loK κ j) (hiK κ j) = (q, none)) : itS t κ (n + 1) a m row = (q, false, row) := by
  unfold itS; rw [h]; dsimp only; rw [if_neg (by omega), hq]
theorem itS_go {t : List Nat} {κ n a m j q : Nat} {v : Int} {row : Nat → Int} (h : spS κ (ch t (sk t a)) = some j) (hm : m / 2 ^ j % 2 = 0) (hq : numS t (sk t a + 1) (loK κ j) (hiK κ j) = (q, some v)) : itS t κ (n + 1) a m row = itS t κ n q (m ||| 2 ^ j) (fun i => if i = j then v else row i) := by
  show (match spS κ (ch t (sk t a)) with | none => _ | some j => _) = _
  rw [h]; dsimp only; rw [if_neg (by omega), hq]
theorem numS_le {t : List Nat} {a q : Nat} {lo hi : Int} {v : Int} (ha : a ≤ t.length) (h : numS t a lo hi = (q, some v)) : q ≤ t.length ∧ lo ≤ v ∧ v ≤ hi := by
  have hs := sk_le ha
  unfold numS at h
  split at h
  · next h0 =>
    have l0 := isD_lt (t := t) (p := sk t a) h0
    split at h
    · next h1 =>
      have l1 := isD_lt (t := t) (p := sk t a + 1) h1
      split at h
      · cases h
      · split at h
        · next h2 => cases h; exact ⟨by omega, h2.1, h2.2⟩
        · cases h
    · split at h
      · next h2 => cases h; exact ⟨by omega, h2.1, h2.2⟩
      · cases h
  · cases h
theorem TC_sI {σ : AS} {t : List Nat} {k : Nat} {r : Nat → Int32} (h : TC σ t) (h1 : k ≠ 1) (h2 : k ≠ 2) : TC (sI σ k r) t := ⟨by rw [sI_ne _ _ _ _ (fun q => h1 q.symm)]; exact h.1, fun i b hb => by rw [sI_ne _ _ _ _ (fun q => h2 q.symm)]; exact h.2 i b hb⟩
theorem atc_rd {σ : AS} {k q : Nat} {r : Nat → Int32} (h1 : k ≠ 1) : (atc (sI σ k r) q).1 k = r := by rw [atc_ne _ _ _ h1, sI_same]
theorem atc_row {σ : AS} {k q j : Nat} {r : Nat → Int32} {v : Int32} (h1 : k ≠ 1) : sI (atc (sI σ k r) q) k (upd ((atc (sI σ k r) q).1 k) j v) = atc (sI σ k (upd r j v)) q := by
  rw [atc_rd h1]
  unfold atc
  rw [sI_comm _ 1 k _ _ (fun q => h1 q.symm), sI_sI, sI_ne σ k 1 r (fun q => h1 q.symm), sI_ne σ k 1 _ (fun q => h1 q.symm)]
theorem rr1 {t : List Nat} {p : Nat} : nv t p 1 = ch t p - 48 := by rw [nv_succ]; show 10 * 0 + _ = _; rw [Nat.add_zero]; omega
theorem rr2 {t : List Nat} {p : Nat} : nv t p 2 = 10 * (ch t p - 48) + (ch t (p + 1) - 48) := by rw [nv_succ, rr1]
theorem t97_bad {l : Launch} {D : va_G} {cA ad : Nat → Nat} {d : Nat} {σ : AS} {K : Option Value → AS → Prop} {κ rw j q : Nat} {r : Nat → Int32} {x5 x6 x7 : Int32} (hκ : κ < 3) (hR : RO σ) (hrw : sh[rw]? = some (1, kN κ)) (h1 : rw ≠ 1) (hj : j < kN κ) (hK : ∀ r, K (some (.int (iI 0))) (atc (sI σ rw r) q)) : Go l D cA ad d mX9_readItems 97 [.ref 1, .ref (2000 + κ), .ref (1000 + (3 * κ + 1)), .ref (1000 + (3 * κ + 2)), .ref rw, .int x5, .int x6, .int x7, .int (iI j)] [.int (iI (-1)), .int (iI j), .ref rw] (atc (sI σ rw r) q) K := by
  have kk := kN_ok κ hκ
  have kv := kV_ok κ hκ j hj
  refine go_iast dX9_readItems_97 hrw (by exact vp_iI (by omega) (by omega)) ?_
  simp only [iI_cl (show (0 : Int) ≤ (j : Int) ∧ (j : Int) < 2147483648 by omega), Int.toNat_natCast]
  rw [atc_row h1]
  refine go_aload dX9_readItems_98 rfl ?_
  refine go_iload dX9_readItems_100 rfl ?_
  refine go_iald dX9_readItems_102 hrw (by exact vp_iI (by omega) (by omega)) ?_
  refine go_iconst (v := iI (-1)) dX9_readItems_103 (by decide) ?_
  refine go_icmp_ne (tgt := 109) dX9_readItems_104 (by decide) (fun h104 => ?_) (fun h104 => ?_)
  · exfalso
    rw [atc_rd h1, iI_cl (show (0 : Int) ≤ (j : Int) ∧ (j : Int) < 2147483648 by omega), Int.toNat_natCast, upd_same] at h104
    exact h104 rfl
  · refine go_iconst (v := iI 0) dX9_readItems_107 (by decide) ?_
    refine go_iret rfl rfl dX9_readItems_108 ?_
    exact hK _
theorem t97_good {l : Launch} {D : va_G} {cA ad : Nat → Nat} {d : Nat} {σ : AS} {K : Option Value → AS → Prop} {κ rw j q : Nat} {r : Nat → Int32} {x5 x6 x7 : Int32} (hκ : κ < 3) (hR : RO σ) (hrw : sh[rw]? = some (1, kN κ)) (h1 : rw ≠ 1) (hj : j < kN κ) {v : Int} (hv : 0 ≤ v ∧ v ≤ 1000) (hK1 : ¬ (loK κ j ≤ v ∧ v ≤ hiK κ j) → ∀ r, K (some (.int (iI 0))) (atc (sI σ rw r) q)) (hK2 : loK κ j ≤ v ∧ v ≤ hiK κ j → Go l D cA ad d mX9_readItems 6 [.ref 1, .ref (2000 + κ), .ref (1000 + (3 * κ + 1)), .ref (1000 + (3 * κ + 2)), .ref rw, .int x5, .int (x6 + iI 1), .int x7, .int (iI j)] [] (atc (sI σ rw (upd r j (iI v))) (q + 1)) K) : Go l D cA ad d mX9_readItems 97 [.ref 1, .ref (2000 + κ), .ref (1000 + (3 * κ + 1)), .ref (1000 + (3 * κ + 2)), .ref rw, .int x5, .int x6, .int x7, .int (iI j)] [.int (iI v), .int (iI j), .ref rw] (atc (sI σ rw r) (q + 1)) K := by
  have kk := kN_ok κ hκ
  have kv := kV_ok κ hκ j hj
  refine go_iast dX9_readItems_97 hrw (by exact vp_iI (by omega) (by omega)) ?_
  simp only [iI_cl (show (0 : Int) ≤ (j : Int) ∧ (j : Int) < 2147483648 by omega), Int.toNat_natCast]
  rw [atc_row h1]
  refine go_aload dX9_readItems_98 rfl ?_
  refine go_iload dX9_readItems_100 rfl ?_
  refine go_iald dX9_readItems_102 hrw (by exact vp_iI (by omega) (by omega)) ?_
  refine go_iconst (v := iI (-1)) dX9_readItems_103 (by decide) ?_
  refine go_icmp_ne (tgt := 109) dX9_readItems_104 (by decide) (fun h104 => ?_) (fun h104 => ?_)
  · refine go_aload dX9_readItems_109 rfl ?_
    refine go_iload dX9_readItems_111 rfl ?_
    refine go_iald dX9_readItems_113 hrw (by exact vp_iI (by omega) (by omega)) ?_
    refine go_aload_n dX9_readItems_114 rfl ?_
    refine go_iload dX9_readItems_115 rfl ?_
    refine go_ti (by omega) dX9_readItems_117 (by rw [kk.2.2.2.2.2.1]; exact vp_iI (by omega) (by omega)) ?_
    refine go_icmp_lt (tgt := 133) dX9_readItems_118 (by decide) (fun h118 => ?_) (fun h118 => ?_)
    · rw [atc_rd h1, iI_cl (show (0 : Int) ≤ (j : Int) ∧ (j : Int) < 2147483648 by omega), Int.toNat_natCast, upd_same, kv.2.1, iI_lt (by omega)] at h118
      refine go_aload_n dX9_readItems_133 rfl ?_
      refine go_dup dX9_readItems_134 rfl ?_
      refine go_getI fX9_46 dX9_readItems_135 rfl ?_
      refine go_iconst (v := iI 1) dX9_readItems_138 (by decide) ?_
      refine go_isub dX9_readItems_139 ?_
      refine go_putI fX9_46 rfl dX9_readItems_140 rfl rfl rfl ?_
      rw [atc_dec]
      refine go_iconst (v := iI 0) dX9_readItems_143 (by decide) ?_
      refine go_iret rfl rfl dX9_readItems_144 ?_
      exact hK1 (by omega) _
    · rw [atc_rd h1, iI_cl (show (0 : Int) ≤ (j : Int) ∧ (j : Int) < 2147483648 by omega), Int.toNat_natCast, upd_same, kv.2.1, iI_lt (by omega)] at h118
      refine go_aload dX9_readItems_121 rfl ?_
      refine go_iload dX9_readItems_123 rfl ?_
      refine go_iald dX9_readItems_125 hrw (by exact vp_iI (by omega) (by omega)) ?_
      refine go_aload_n dX9_readItems_126 rfl ?_
      refine go_iload dX9_readItems_127 rfl ?_
      refine go_ti (by omega) dX9_readItems_129 (by rw [kk.2.2.2.2.2.2]; exact vp_iI (by omega) (by omega)) ?_
      refine go_icmp_le (tgt := 145) dX9_readItems_130 (by decide) (fun h130 => ?_) (fun h130 => ?_)
      · rw [atc_rd h1, iI_cl (show (0 : Int) ≤ (j : Int) ∧ (j : Int) < 2147483648 by omega), Int.toNat_natCast, upd_same, kv.2.2.1, iI_le (by omega)] at h130
        refine go_iincI dX9_readItems_145 rfl (Nat.le_of_ble_eq_true rfl) rfl ?_
        refine go_goto (tgt := 6) dX9_readItems_148 (by decide) ?_
        simp only [List.set]
        exact hK2 (by omega)
      · rw [atc_rd h1, iI_cl (show (0 : Int) ≤ (j : Int) ∧ (j : Int) < 2147483648 by omega), Int.toNat_natCast, upd_same, kv.2.2.1, iI_le (by omega)] at h130
        refine go_aload_n dX9_readItems_133 rfl ?_
        refine go_dup dX9_readItems_134 rfl ?_
        refine go_getI fX9_46 dX9_readItems_135 rfl ?_
        refine go_iconst (v := iI 1) dX9_readItems_138 (by decide) ?_
        refine go_isub dX9_readItems_139 ?_
        refine go_putI fX9_46 rfl dX9_readItems_140 rfl rfl rfl ?_
        rw [atc_dec]
        refine go_iconst (v := iI 0) dX9_readItems_143 (by decide) ?_
        refine go_iret rfl rfl dX9_readItems_144 ?_
        exact hK1 (by omega) _
  · exfalso
    rw [atc_rd h1, iI_cl (show (0 : Int) ≤ (j : Int) ∧ (j : Int) < 2147483648 by omega), Int.toNat_natCast, upd_same, iI_eq (by omega)] at h104
    omega
theorem it_X9_readItems {l : Launch} {D : va_G} {cA ad : Nat → Nat} {d : Nat} {σ : AS} {K : Option Value → AS → Prop} {t : List Nat} {κ rw a0 : Nat} {row0 : Nat → Int} (hκ : κ < 3) (ht : TOK t) (hR : RO σ) (hT : TC σ t) (hrw : sh[rw]? = some (1, kN κ)) (h1 : rw ≠ 1) (h2 : rw ≠ 2) (hK1 : ∀ q r, (∃ b row', itS t κ (kN κ + 1) a0 0 row0 = (q, b, row') ∧ (b = true → ch t q ≠ -1 ∧ ch t q ≠ 59)) → K (some (.int (iI 0))) (atc (sI σ rw r) q)) (hK2 : ∀ q row' r, itS t κ (kN κ + 1) a0 0 row0 = (q, true, row') → q ≤ t.length → (ch t q = -1 ∨ ch t q = 59) → (∀ j, j < kN κ → r j = iI (row' j)) → K (some (.int (iI 1))) (atc (sI σ rw r) q)) : ∀ (n a m : Nat) (row : Nat → Int) (r : Nat → Int32) (v7 v8 : Value), m < 2 ^ kN κ → kN κ + 1 = n + pop9 m → a ≤ t.length → (∀ j, j < kN κ → r j = iI (row j)) → itS t κ (kN κ + 1) a0 0 row0 = itS t κ n a m row → Go l D cA ad (d + 4) mX9_readItems 6 [.ref 1, .ref (2000 + κ), .ref (1000 + (3 * κ + 1)), .ref (1000 + (3 * κ + 2)), .ref rw, .int (iI m), .int (iI (pop9 m)), v7, v8] [] (atc (sI σ rw r) a) K := by
  have ht1 := ht.1
  have kk := kN_ok κ hκ
  intro n
  induction n with
  | zero =>
    intro a m row r v7 v8 hm hn
    have := pop_le m (by have := pw_lt (kN κ) (by omega); omega) (kN κ) (by omega) hm
    omega
  | succ n ih =>
  intro a m row r v7 v8 hm hn ha hr hres
  have hm5 := pw_lt (kN κ) (by omega)
  have hpl := pop_le m (by omega) (kN κ) (by omega) hm
  have hsk := sk_le ha
  have hch := ch_lt ht (sk t a)
  refine go_iload dX9_readItems_6 rfl ?_
  refine go_aload dX9_readItems_8 rfl ?_
  refine go_alen1 dX9_readItems_10 hrw ?_
  refine go_icmp_gt (tgt := 151) dX9_readItems_11 (by decide) (fun h11 => ?_) (fun h11 => ?_)
  · exfalso
    rw [iI_ofNat, iI_lt (by omega)] at h11
    omega
  · refine go_aload_n dX9_readItems_14 rfl ?_
    refine go_callV (as := []) wX9_61 dX9_readItems_15 rfl rfl rfl rfl (Nat.le_of_ble_eq_true rfl) (ct_X8_look ht hR (TC_sI hT h1 h2) ha ?_)
    refine go_istore dX9_readItems_18 (Nat.le_of_ble_eq_true rfl) rfl ?_
    refine go_iload dX9_readItems_20 rfl ?_
    refine go_iconst (v := iI (-1)) dX9_readItems_22 (by decide) ?_
    refine go_icmp_eq (tgt := 33) dX9_readItems_23 (by decide) (fun h23 => ?_) (fun h23 => ?_)
    · rw [iI_eq (by omega)] at h23
      have hend := itS_none (n := n) (m := m) (row := row) (spS_none (κ := κ) (c := ch t (sk t a)) (fun j hj => by have := kV_ok κ hκ j hj; omega))
      refine go_iconst (v := iI 1) dX9_readItems_33 (by decide) ?_
      refine go_iret rfl rfl dX9_readItems_34 ?_
      exact hK2 _ _ _ (hres.trans hend) hsk (by omega) hr
    · rw [iI_eq (by omega)] at h23
      refine go_iload dX9_readItems_26 rfl ?_
      refine go_bipush (v := iI 59) dX9_readItems_28 (by decide) ?_
      refine go_icmp_ne (tgt := 35) dX9_readItems_30 (by decide) (fun h30 => ?_) (fun h30 => ?_)
      · rw [iI_eq (by omega)] at h30
        refine go_aload_n dX9_readItems_35 rfl ?_
        refine go_iload dX9_readItems_36 rfl ?_
        refine go_i2c dX9_readItems_38 ?_
        rw [iI_c (by omega)]
        refine go_callVs (i := κ) (as := [_]) (by omega) wX9_100 rfl dX9_readItems_39 rfl rfl (Nat.le_of_ble_eq_true rfl) (ct_J0_indexOf_0f7a4 (by omega) (by omega) (fun j hj hsc => ?_) (fun hno => ?_))
        · rw [kk.1] at hj
          have hsp := spS_some hκ hj hsc
          refine go_istore dX9_readItems_42 (Nat.le_of_ble_eq_true rfl) rfl ?_
          refine go_iload dX9_readItems_44 rfl ?_
          refine go_if_lt (tgt := 67) dX9_readItems_46 (by decide) (fun h46 => ?_) (fun h46 => ?_)
          · exfalso
            rw [iI_lt0 (by omega)] at h46
            omega
          · refine go_iload dX9_readItems_49 rfl ?_
            refine go_aload dX9_readItems_51 rfl ?_
            refine go_alen1 dX9_readItems_53 hrw ?_
            refine go_icmp_ge (tgt := 67) dX9_readItems_54 (by decide) (fun h54 => ?_) (fun h54 => ?_)
            · exfalso
              rw [iI_ofNat, iI_le (by omega)] at h54
              omega
            · refine go_iload dX9_readItems_57 rfl ?_
              refine go_iload dX9_readItems_59 rfl ?_
              refine go_ishr dX9_readItems_61 ?_
              refine go_iconst (v := iI 1) dX9_readItems_62 (by decide) ?_
              refine go_iand dX9_readItems_63 ?_
              refine go_if_eq (tgt := 69) dX9_readItems_64 (by decide) (fun h64 => ?_) (fun h64 => ?_)
              · rw [b_get m (by omega) j (by omega), iI_eq0 (by omega)] at h64
                have hbit : m / 2 ^ j % 2 = 0 := by omega
                refine go_iload dX9_readItems_69 rfl ?_
                refine go_iconst (v := iI 1) dX9_readItems_71 (by decide) ?_
                refine go_iload dX9_readItems_72 rfl ?_
                refine go_ishl dX9_readItems_74 ?_
                refine go_ior dX9_readItems_75 ?_
                refine go_istore dX9_readItems_76 (Nat.le_of_ble_eq_true rfl) rfl ?_
                rw [b_or m (by omega) j (by omega)]
                refine go_aload_n dX9_readItems_78 rfl ?_
                refine go_dup dX9_readItems_79 rfl ?_
                refine go_getI fX9_46 dX9_readItems_80 rfl ?_
                refine go_iconst (v := iI 1) dX9_readItems_83 (by decide) ?_
                refine go_iadd dX9_readItems_84 ?_
                refine go_putI fX9_46 rfl dX9_readItems_85 rfl rfl rfl ?_
                rw [atc_inc]
                have hp1 : sk t a + 1 ≤ t.length := by
                  rcases Nat.lt_or_ge (sk t a) t.length with q | q
                  · exact q
                  · exact absurd (ch_out q) h23
                refine go_aload dX9_readItems_88 rfl ?_
                refine go_iload dX9_readItems_90 rfl ?_
                refine go_aload_n dX9_readItems_92 rfl ?_
                refine go_iconst (v := iI 2) dX9_readItems_93 (by decide) ?_
                refine go_callV (as := [_]) wX9_104 dX9_readItems_94 rfl rfl rfl rfl (Nat.le_of_ble_eq_true rfl) (ct_X8_takeNumber (m := 2) ht hR (TC_sI hT h1 h2) hp1 (by omega) (fun d0 => ?_) (fun k k1 k2 kd kn => ?_) (fun kd => ?_))
                · simp only [List.set]
                  have hbad := itS_bad (n := n) (row := row) hsp hbit (numS_0 d0)
                  exact t97_bad hκ hR hrw h1 hj (fun r2 => hK1 _ _ ⟨_, _, hres.trans hbad, fun q => by cases q⟩)
                · simp only [List.set]
                  have hor := b_or m (by omega) j (by omega)
                  have hlt := or_lt (kN κ) (by omega) j hj m hm
                  have hpop := pop_or m (by omega) j (by omega) hbit
                  have hnv := nv_ge (t := t) (p := sk t (sk t a + 1)) k kd
                  have hnum : numS t (sk t a + 1) (loK κ j) (hiK κ j) = if loK κ j ≤ nv t (sk t (sk t a + 1)) k ∧ nv t (sk t (sk t a + 1)) k ≤ hiK κ j then (sk t (sk t a + 1) + k, some (nv t (sk t (sk t a + 1)) k)) else (sk t (sk t a + 1) + k - 1, none) := by
                    rcases (show k = 1 ∨ k = 2 by omega) with rfl | rfl
                    · rw [rr1]; exact numS_1 (kd 0 (by omega)) kn
                    · rw [rr2]; exact numS_2 (kd 0 (by omega)) (kd 1 (by omega)) kn
                  have h100 : nv t (sk t (sk t a + 1)) k ≤ 1000 := by
                    rcases (show k = 1 ∨ k = 2 by omega) with rfl | rfl
                    · have := hnv.2; omega
                    · have := hnv.2; omega
                  obtain ⟨q, hq⟩ : ∃ q, sk t (sk t a + 1) + k = q + 1 := ⟨sk t (sk t a + 1) + k - 1, by omega⟩
                  rw [hq] at hnum ⊢
                  refine t97_good hκ hR hrw h1 hj ⟨hnv.1, h100⟩ (fun hn => ?_) (fun hn => ?_)
                  · rw [if_neg hn] at hnum
                    intro r2
                    exact hK1 _ _ ⟨_, _, hres.trans (itS_bad hsp hbit hnum), fun q => by cases q⟩
                  · rw [if_pos hn] at hnum
                    have hgo := itS_go (n := n) (row := row) hsp hbit hnum
                    rw [iI_add, show (((pop9 m : Nat) : Int) + 1) = ((pop9 (m ||| 2 ^ j) : Nat) : Int) by rw [hpop]; omega]
                    exact ih (q + 1) (m ||| 2 ^ j) _ _ _ _ hlt (by rw [hpop]; omega) (numS_le hp1 hnum).1 (fun i hi => by
                      by_cases e : i = j
                      · subst e; rw [upd_same, if_pos rfl]
                      · rw [upd_ne _ _ _ _ e, if_neg e]; exact hr i hi) (hres.trans hgo)
                · simp only [List.set]
                  have hbad := itS_bad (n := n) (row := row) hsp hbit (numS_3 (kd 0 (by omega)) (kd 1 (by omega)) (kd 2 (by omega)))
                  exact t97_bad hκ hR hrw h1 hj (fun r2 => hK1 _ _ ⟨_, _, hres.trans hbad, fun q => by cases q⟩)
              · rw [b_get m (by omega) j (by omega), iI_eq0 (by omega)] at h64
                have hbad := itS_dup (n := n) (row := row) hsp ((bit_01 m j).resolve_left (fun q => h64 (by rw [q]; rfl)))
                have hfin : ∃ b row', itS t κ (kN κ + 1) a0 0 row0 = (sk t a, b, row') ∧ (b = true → ch t (sk t a) ≠ -1 ∧ ch t (sk t a) ≠ 59) := ⟨false, row, hres.trans hbad, fun q => by cases q⟩
                refine go_iconst (v := iI 0) dX9_readItems_67 (by decide) ?_
                refine go_iret rfl rfl dX9_readItems_68 ?_
                exact hK1 _ _ hfin
        · have hsp := spS_none (κ := κ) (c := ch t (sk t a)) (fun j hj => hno j (by omega))
          have hbad := itS_none (n := n) (m := m) (row := row) hsp
          have hfin : ∃ b row', itS t κ (kN κ + 1) a0 0 row0 = (sk t a, b, row') ∧ (b = true → ch t (sk t a) ≠ -1 ∧ ch t (sk t a) ≠ 59) := ⟨true, row, hres.trans hbad, fun _ => ⟨h23, h30⟩⟩
          refine go_istore dX9_readItems_42 (Nat.le_of_ble_eq_true rfl) rfl ?_
          refine go_iload dX9_readItems_44 rfl ?_
          refine go_if_lt (tgt := 67) dX9_readItems_46 (by decide) (fun h46 => ?_) (fun h46 => ?_)
          · refine go_iconst (v := iI 0) dX9_readItems_67 (by decide) ?_
            refine go_iret rfl rfl dX9_readItems_68 ?_
            exact hK1 _ _ hfin
          · exact absurd h46 (by decide)
      · rw [iI_eq (by omega)] at h30
        have hend := itS_none (n := n) (m := m) (row := row) (spS_none (κ := κ) (c := ch t (sk t a)) (fun j hj => by have := kV_ok κ hκ j hj; omega))
        refine go_iconst (v := iI 1) dX9_readItems_33 (by decide) ?_
        refine go_iret rfl rfl dX9_readItems_34 ?_
        exact hK2 _ _ _ (hres.trans hend) hsk (by omega) hr
theorem ct_X9_readItems {l : Launch} {D : va_G} {cA ad : Nat → Nat} {d : Nat} {σ : AS} {K : Option Value → AS → Prop} {t : List Nat} {κ rw a0 : Nat} {r : Nat → Int32} {row0 : Nat → Int} (hκ : κ < 3) (ht : TOK t) (hR : RO σ) (hT : TC σ t) (hrw : sh[rw]? = some (1, kN κ)) (h1 : rw ≠ 1) (h2 : rw ≠ 2) (ha : a0 ≤ t.length) (hr : ∀ j, j < kN κ → r j = iI (row0 j)) (hK1 : ∀ q r, (∃ b row', itS t κ (kN κ + 1) a0 0 row0 = (q, b, row') ∧ (b = true → ch t q ≠ -1 ∧ ch t q ≠ 59)) → K (some (.int (iI 0))) (atc (sI σ rw r) q)) (hK2 : ∀ q row' r, itS t κ (kN κ + 1) a0 0 row0 = (q, true, row') → q ≤ t.length → (ch t q = -1 ∨ ch t q = 59) → (∀ j, j < kN κ → r j = iI (row' j)) → K (some (.int (iI 1))) (atc (sI σ rw r) q)) : Call l D cA ad (d + 4) mX9_readItems [.ref 1, .ref (2000 + κ), .ref (1000 + (3 * κ + 1)), .ref (1000 + (3 * κ + 2)), .ref rw] (atc (sI σ rw r) a0) K := by
  refine call_go (by decide) (Nat.le_of_ble_eq_true rfl) (show Go l D cA ad (d + 4) mX9_readItems 0 [.ref 1, .ref (2000 + κ), .ref (1000 + (3 * κ + 1)), .ref (1000 + (3 * κ + 2)), .ref rw, .null, .null, .null, .null] [] (atc (sI σ rw r) a0) K from ?_)
  refine go_iconst (v := iI 0) dX9_readItems_0 (by decide) ?_
  refine go_istore dX9_readItems_1 (Nat.le_of_ble_eq_true rfl) rfl ?_
  refine go_iconst (v := iI 0) dX9_readItems_3 (by decide) ?_
  refine go_istore dX9_readItems_4 (Nat.le_of_ble_eq_true rfl) rfl ?_
  simp only [List.set]
  exact it_X9_readItems hκ ht hR hT hrw h1 h2 hK1 hK2 (kN κ + 1) a0 0 row0 r _ _ (Nat.pos_of_ne_zero (by simp)) rfl ha hr rfl
