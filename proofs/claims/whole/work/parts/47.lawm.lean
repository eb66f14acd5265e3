/-! the model's reader of laws -/
def md (τ : AS) (w : Int32) : AS := sI τ 111 (upd (τ.1 111) 12 w)
def dw (e : Nat) : Int32 := iI ((6 - e : Nat) : Int)
theorem md_ne {τ : AS} {w : Int32} {k : Nat} (h : k ≠ 111) : (md τ w).1 k = τ.1 k := by unfold md; rw [sI_ne _ _ _ _ h]
theorem md_fd {τ : AS} {w : Int32} {j : Nat} (h : j ≠ 12) : (md τ w).1 111 j = τ.1 111 j := by unfold md; rw [sI_same, upd_ne _ _ _ _ h]
theorem md_w {τ : AS} {w : Int32} : (md τ w).1 111 12 = w := by unfold md; rw [sI_same, upd_same]
theorem md_put {τ : AS} {w x : Int32} {a : Nat} {f : Int} : sI (msa (md τ w) a f) 111 (upd ((msa (md τ w) a f).1 111) 12 x) = msa (md τ x) a f := by
  unfold msa md
  rw [sI_same, sI_same, sI_same, sI_sI, sI_sI, sI_sI, upd_comm _ 11 12 _ _ (by decide), upd_comm _ 10 12 _ _ (by decide), upd_upd]
theorem RO_md {τ : AS} {w : Int32} (h : RO τ) : RO (md τ w) := h
theorem TX_md {τ : AS} {w : Int32} {tx b : Nat} {t : List Nat} (h : TX τ tx b t) : TX (md τ w) tx b t := TX_fd h (by decide) (by decide)
def EV (τ : AS) (ev : Nat → Int) : Prop := ∀ j, j < 6 → τ.1 115 (sc 7 j).toNat = iI (ev j) ∧ bd6 (ev j)
def B01 (v : Int32) : Prop := v = iI 0 ∨ v = iI 1
def BAn (v : Int32) : Prop := v = v
def PrsM (l : Launch) (D : va_G) (cA ad : Nat → Nat) (t : List Nat) (τ : AS) (ev : Nat → Int) (e dd : Nat) (M : Mt) (xs : List Value) (B : Int32 → Prop) (S : Nat → RS) : Prop := ∀ (K : Option Value → AS → Prop) (a : Nat), a ≤ t.length → (∀ q v w, S a = (q, none) → q ≤ t.length → B v → K (some (.int v)) (msa (md τ w) q q)) → (∀ q c, S a = (q, some c) → q ≤ t.length → K (some (.int (iI (c.2 ev)))) (msa (md τ (dw e)) q (-1))) → Call l D cA ad dd M (.ref 111 :: xs) (msa (md τ (dw e)) a (-1)) K
theorem ct_X12_within {l : Launch} {D : va_G} {cA ad : Nat → Nat} {d : Nat} {σ : AS} {K : Option Value → AS → Prop} {v : Int64} (hK : K (some (.int (iI (clampV v.toInt)))) σ) : Call l D cA ad (d + 1) mX12_within [.long v] σ K := by
  refine call_go (by decide) (Nat.le_of_ble_eq_true rfl) (show Go l D cA ad (d + 1) mX12_within 0 [.long v, .null] [] σ K from ?_)
  refine go_ldc2 lX12_141 dX12_within_0 ?_
  refine go_ldc2 lX12_143 dX12_within_3 ?_
  refine go_lload_n dX12_within_6 rfl ?_
  refine go_minL wX12_145 dX12_within_7 (Nat.le_of_ble_eq_true rfl) ?_
  refine go_maxL wX12_151 dX12_within_10 (Nat.le_of_ble_eq_true rfl) ?_
  refine go_l2i dX12_within_13 ?_
  refine go_iret rfl rfl dX12_within_14 ?_
  have e : (if (if v < 1000000 then v else 1000000) < -1000000 then -1000000 else (if v < 1000000 then v else 1000000) : Int64).toInt32 = iI (clampV v.toInt) := by
    have h1 : (1000000 : Int64).toInt = 1000000 := by decide
    have h2 : (-1000000 : Int64).toInt = -1000000 := by decide
    by_cases c1 : v < 1000000
    · rw [if_pos c1]
      rw [Int64.lt_iff_toInt_lt, h1] at c1
      by_cases c2 : v < -1000000
      · rw [if_pos c2]
        rw [Int64.lt_iff_toInt_lt, h2] at c2
        unfold clampV
        rw [if_neg (by omega), if_pos c2]; rfl
      · rw [if_neg c2]
        rw [Int64.lt_iff_toInt_lt, h2] at c2
        unfold clampV
        rw [if_neg (by omega), if_neg c2]
        conv => lhs; rw [← lL_of v]
        exact l2i_lL _
    · rw [if_neg c1, if_neg (by decide)]
      rw [Int64.lt_iff_toInt_lt, h1] at c1
      unfold clampV
      by_cases c3 : v.toInt = 1000000
      · rw [if_neg (by omega), if_neg (by omega), c3]; rfl
      · rw [if_pos (by omega)]; rfl
  rw [e]
  exact hK

theorem ct_X12_isSign {l : Launch} {D : va_G} {cA ad : Nat → Nat} {d : Nat} {σ : AS} {K : Option Value → AS → Prop} {c : Int} (hc : -1 ≤ c ∧ c ≤ 255) (hK1 : cmpO c = 0 → K (some (.int (iI 0))) σ) (hK2 : cmpO c ≠ 0 → K (some (.int (iI 1))) σ) : Call l D cA ad d mX12_isSign [.int (iI c)] σ K := by
  refine call_go (by decide) (Nat.le_of_ble_eq_true rfl) (show Go l D cA ad d mX12_isSign 0 [.int (iI c)] [] σ K from ?_)
  refine go_iload_n dX12_isSign_0 rfl ?_
  refine go_bipush (v := iI 61) dX12_isSign_1 (by decide) ?_
  refine go_icmp_eq (tgt := 18) dX12_isSign_3 (by decide) (fun h3 => ?_) (fun h3 => ?_)
  · rw [iI_eq (by omega)] at h3
    refine go_iconst (v := iI 1) dX12_isSign_18 (by decide) ?_
    refine go_goto (tgt := 23) dX12_isSign_19 (by decide) ?_
    refine go_iret rfl rfl dX12_isSign_23 ?_
    exact hK2 (by rw [h3]; decide)
  · rw [iI_eq (by omega)] at h3
    refine go_iload_n dX12_isSign_6 rfl ?_
    refine go_bipush (v := iI 60) dX12_isSign_7 (by decide) ?_
    refine go_icmp_eq (tgt := 18) dX12_isSign_9 (by decide) (fun h9 => ?_) (fun h9 => ?_)
    · rw [iI_eq (by omega)] at h9
      refine go_iconst (v := iI 1) dX12_isSign_18 (by decide) ?_
      refine go_goto (tgt := 23) dX12_isSign_19 (by decide) ?_
      refine go_iret rfl rfl dX12_isSign_23 ?_
      exact hK2 (by rw [h9]; decide)
    · rw [iI_eq (by omega)] at h9
      refine go_iload_n dX12_isSign_12 rfl ?_
      refine go_bipush (v := iI 62) dX12_isSign_13 (by decide) ?_
      refine go_icmp_ne (tgt := 22) dX12_isSign_15 (by decide) (fun h15 => ?_) (fun h15 => ?_)
      · rw [iI_eq (by omega)] at h15
        refine go_iconst (v := iI 0) dX12_isSign_22 (by decide) ?_
        refine go_iret rfl rfl dX12_isSign_23 ?_
        exact hK1 (by unfold cmpO; rw [if_neg h3, if_neg h9, if_neg h15])
      · rw [iI_eq (by omega)] at h15
        refine go_iconst (v := iI 1) dX12_isSign_18 (by decide) ?_
        refine go_goto (tgt := 23) dX12_isSign_19 (by decide) ?_
        refine go_iret rfl rfl dX12_isSign_23 ?_
        exact hK2 (by rw [show c = 62 by omega]; decide)

theorem ct_X12_goesIn {l : Launch} {D : va_G} {cA ad : Nat → Nat} {d : Nat} {τ : AS} {K : Option Value → AS → Prop} {a e : Nat} (he : e ≤ 6) (hK1 : e = 0 → K (some (.int (iI 0))) (msa (md τ (dw e)) a a)) (hK2 : ∀ e', e = e' + 1 → K (some (.int (iI 1))) (msa (md τ (dw e')) (a + 1) (-1))) : Call l D cA ad (d + 1) mX12_goesIn [.ref 111] (msa (md τ (dw e)) a (-1)) K := by
  unfold dw at hK1 ⊢
  refine call_go (by decide) (Nat.le_of_ble_eq_true rfl) (show Go l D cA ad (d + 1) mX12_goesIn 0 [.ref 111] [] (msa (md τ (iI ((6 - e : Nat) : Int))) a (-1)) K from ?_)
  refine go_aload_n dX12_goesIn_0 rfl ?_
  refine go_getI fX12_131 dX12_goesIn_1 rfl ?_
  refine go_bipush (v := iI 6) dX12_goesIn_4 (by decide) ?_
  refine go_icmp_ne (tgt := 14) dX12_goesIn_6 (by decide) (fun h6 => ?_) (fun h6 => ?_)
  · rw [msa_fd _ _ _ _ (by decide) (by decide), md_w, iI_eq (by omega)] at h6
    refine go_aload_n dX12_goesIn_14 rfl ?_
    refine go_dup dX12_goesIn_15 rfl ?_
    refine go_getI fX12_131 dX12_goesIn_16 rfl ?_
    refine go_iconst (v := iI 1) dX12_goesIn_19 (by decide) ?_
    refine go_iadd dX12_goesIn_20 ?_
    refine go_putI fX12_131 rfl dX12_goesIn_21 rfl rfl rfl ?_
    rw [msa_fd _ _ _ _ (by decide) (by decide), md_w, md_put]
    obtain ⟨e', rfl⟩ : ∃ e', e = e' + 1 := ⟨e - 1, by omega⟩
    have e6 : iI ((6 - (e' + 1) : Nat) : Int) + iI 1 = dw e' := by rw [iI_add]; unfold dw; congr 1; omega
    rw [e6]
    refine go_aload_n dX12_goesIn_24 rfl ?_
    refine go_dup dX12_goesIn_25 rfl ?_
    refine go_getI fX12_119 dX12_goesIn_26 rfl ?_
    refine go_iconst (v := iI 1) dX12_goesIn_29 (by decide) ?_
    refine go_iadd dX12_goesIn_30 ?_
    refine go_putI fX12_119 rfl dX12_goesIn_31 rfl rfl rfl ?_
    refine go_iconst (v := iI 1) dX12_goesIn_34 (by decide) ?_
    refine go_iret rfl rfl dX12_goesIn_35 ?_
    rw [msa_inc]
    exact hK2 e' rfl
  · rw [msa_fd _ _ _ _ (by decide) (by decide), md_w, iI_eq (by omega)] at h6
    refine go_aload_n dX12_goesIn_9 rfl ?_
    refine go_callV (as := []) wX12_134 dX12_goesIn_10 rfl rfl rfl rfl (Nat.le_of_ble_eq_true rfl) (ct_X12_fails ?_)
    refine go_iret rfl rfl dX12_goesIn_13 ?_
    exact hK1 (by omega)
theorem it_X12_atom {l : Launch} {D : va_G} {cA ad : Nat → Nat} {d e tx b : Nat} {τ : AS} {t : List Nat} {K : Option Value → AS → Prop} {p : Nat} {c0 : Int32} (ht : TOK t) (hX : TX τ tx b t) (h0 : isD t p) (hK1 : (∀ i, i ≤ 4 → isD t (p + i)) → K (some (.int (iI 0))) (msa (md τ (dw e)) (p + 4) ((p + 4 : Nat) : Int))) (hK2 : ∀ k, 1 ≤ k → k ≤ 4 → (∀ i, i < k → isD t (p + i)) → ¬ isD t (p + k) → K (some (.int (iI (nv t p k)))) (msa (md τ (dw e)) (p + k) (-1))) : ∀ (n k : Nat), 4 - k < n → k ≤ 4 → p + k ≤ t.length → (∀ i, i < k → isD t (p + i)) → Go l D cA ad (d + 1) mX12_atom 90 [.ref 111, .int c0, .int (iI (nv t p k)), .int (iI k)] [] (msa (md τ (dw e)) (p + k) (-1)) K := by
  have ht1 := ht.1
  have hXm : ∀ w, TX (md τ w) tx b t := fun w => TX_md hX
  have hX8 : ∀ w, (md τ w).1 111 8 = iI b := fun w => by rw [md_fd (by decide)]; exact hX.2.2.1
  obtain ⟨nn, hsh, hn1, hn2⟩ := TX_sh hX
  intro n
  induction n with
  | zero => intro k h; omega
  | succ n ih =>
  intro k hn hkm hpk hk
  refine go_aload_n dX12_atom_90 rfl ?_
  refine go_callV (as := []) wX12_168 dX12_atom_91 rfl rfl rfl rfl (Nat.le_of_ble_eq_true rfl) (ct_X12_isDigit ht (hXm _) (by omega) (fun hd => ?_) (fun hd => ?_))
  · refine go_if_eq (tgt := 156) dX12_atom_94 (by decide) (fun h94 => ?_) (fun h94 => ?_)
    · refine go_iload_n dX12_atom_156 rfl ?_
      refine go_iret rfl rfl dX12_atom_157 ?_
      exact hK2 k (by
        rcases Nat.eq_zero_or_pos k with q | q
        · subst q; exact absurd h0 hd
        · exact q) (by omega) hk hd
    · exact absurd h94 (by decide)
  · have hlt := isD_lt hd
    refine go_if_eq (tgt := 156) dX12_atom_94 (by decide) (fun h94 => ?_) (fun h94 => ?_)
    · exact absurd h94 (by decide)
    · refine go_aload_n dX12_atom_97 rfl ?_
      refine go_getI fX12_128 dX12_atom_98 rfl ?_
      refine go_iconst (v := iI (-1)) dX12_atom_101 (by decide) ?_
      refine go_icmp_ne (tgt := 156) dX12_atom_102 (by decide) (fun h102 => ?_) (fun h102 => ?_)
      · rw [msa_ft] at h102
        exact absurd rfl h102
      · refine go_iload_n dX12_atom_105 rfl ?_
        refine go_iconst (v := iI 4) dX12_atom_106 (by decide) ?_
        refine go_icmp_ne (tgt := 117) dX12_atom_107 (by decide) (fun h107 => ?_) (fun h107 => ?_)
        · rw [iI_eq (by omega)] at h107
          refine go_bipush (v := iI 10) dX12_atom_117 (by decide) ?_
          refine go_iload_n dX12_atom_119 rfl ?_
          refine go_imul dX12_atom_120 ?_
          refine go_aload_n dX12_atom_121 rfl ?_
          refine go_getR fX12_23 dX12_atom_122 rfl hX.1 ?_
          refine go_aload_n dX12_atom_125 rfl ?_
          refine go_getI fX12_125 dX12_atom_126 rfl ?_
          refine go_aload_n dX12_atom_129 rfl ?_
          refine go_getI fX12_119 dX12_atom_130 rfl ?_
          refine go_iadd dX12_atom_133 ?_
          refine go_bald dX12_atom_134 hsh (by rw [msa_at, msa_fd _ _ _ _ (by decide) (by decide), hX8, iI_add]; exact vp_iI (by omega) (by omega)) ?_
          refine go_iadd dX12_atom_135 ?_
          refine go_bipush (v := iI 48) dX12_atom_136 (by decide) ?_
          refine go_isub dX12_atom_138 ?_
          refine go_istore_n dX12_atom_139 (Nat.le_of_ble_eq_true rfl) rfl ?_
          refine go_aload_n dX12_atom_140 rfl ?_
          refine go_dup dX12_atom_141 rfl ?_
          refine go_getI fX12_119 dX12_atom_142 rfl ?_
          refine go_iconst (v := iI 1) dX12_atom_145 (by decide) ?_
          refine go_iadd dX12_atom_146 ?_
          refine go_putI fX12_119 rfl dX12_atom_147 rfl rfl rfl ?_
          refine go_iincI dX12_atom_150 rfl (Nat.le_of_ble_eq_true rfl) rfl ?_
          refine go_goto (tgt := 90) dX12_atom_153 (by decide) ?_
          rw [msa_inc]
          have hsb : (msa (md τ (dw e)) (p + k) (-1)).1 tx ((msa (md τ (dw e)) (p + k) (-1)).1 111 8 + (msa (md τ (dw e)) (p + k) (-1)).1 111 10).toNatClampNeg = sb (t[p + k]) := (by rw [msa_at, msa_fd _ _ _ _ (by decide) (by decide), hX8, iI_add, iI_cl (by omega), show ((b : Int) + ((p + k : Nat) : Int)).toNat = b + (p + k) by omega]; exact TX_rd (hXm _) hlt)
          have hd2 := hd
          unfold isD at hd2
          have hc2 := ch_in (List.getElem?_eq_getElem (l := t) (i := p + k) hlt)
          have hbt := ht.2 _ (List.getElem_mem (l := t) (n := p + k) hlt)
          have e : iI 10 * iI (nv t p k) + (msa (md τ (dw e)) (p + k) (-1)).1 tx ((msa (md τ (dw e)) (p + k) (-1)).1 111 8 + (msa (md τ (dw e)) (p + k) (-1)).1 111 10).toNatClampNeg - iI 48 = iI (nv t p (k + 1)) := by
            rw [hsb, show sb (t[p + k]) = iI ((t[p + k] : Nat) : Int) by unfold sb; rw [if_pos (by omega)], iI_mul, iI_add, iI_sub, nv_succ]
            congr 1
            omega
          simp only [List.set, e, iI_add]
          exact ih (k + 1) (by omega) (by omega) (by omega) (fun i hi => by
            rcases Nat.lt_or_ge i k with q | q
            · exact hk i q
            · rw [show i = k by omega]; exact hd)
        · rw [iI_eq (by omega)] at h107
          refine go_aload_n dX12_atom_110 rfl ?_
          refine go_callV (as := []) wX12_134 dX12_atom_111 rfl rfl rfl rfl (Nat.le_of_ble_eq_true rfl) (ct_X12_fails ?_)
          refine go_pop dX12_atom_114 rfl ?_
          refine go_iconst (v := iI 0) dX12_atom_115 (by decide) ?_
          refine go_iret rfl rfl dX12_atom_116 ?_
          have e : k = 4 := by omega
          subst e
          exact hK1 (fun i hi => by
            rcases Nat.lt_or_ge i 4 with q | q
            · exact hk i q
            · rw [show i = 4 by omega]; exact hd)
theorem at_M {l : Launch} {D : va_G} {cA ad : Nat → Nat} {d e tx b : Nat} {τ : AS} {ev : Nat → Int} {t : List Nat} (ht : TOK t) (hR : RO τ) (hX : TX τ tx b t) (hE : EV τ ev) (he : e ≤ 6) (hrec : ∀ e', e = e' + 1 → PrsM l D cA ad t τ ev e' (d + 4) mX12_sum [] BAn (smE t e')) : PrsM l D cA ad t τ ev e (d + 5) mX12_atom [] BAn (atS t (recE t e)) := by
  intro K a ha hK1 hK2
  have ht1 := ht.1
  have hXm : ∀ w, TX (md τ w) tx b t := fun w => TX_md hX
  have hX8 : ∀ w, (md τ w).1 111 8 = iI b := fun w => by rw [md_fd (by decide)]; exact hX.2.2.1
  have hch := ch_lt ht (sk t a)
  have hsk := sk_le ha
  have hsg := sk_ge t a
  refine call_go (by decide) (Nat.le_of_ble_eq_true rfl) (show Go l D cA ad (d + 5) mX12_atom 0 [.ref 111, .null, .null, .null] [] (msa (md τ (dw e)) a (-1)) K from ?_)
  refine go_aload_n dX12_atom_0 rfl ?_
  refine go_callV (as := []) wX12_138 dX12_atom_1 rfl rfl rfl rfl (Nat.le_of_ble_eq_true rfl) (ct_X12_look ht (hXm _) ha ?_)
  refine go_istore_n dX12_atom_4 (Nat.le_of_ble_eq_true rfl) rfl ?_
  refine go_ldcS (i := 7) (by decide) rfl dX12_atom_5 ?_
  refine go_iload_n dX12_atom_7 rfl ?_
  refine go_callS (as := [_, _]) wX12_154 dX12_atom_8 rfl rfl (Nat.le_of_ble_eq_true rfl) (ct_X12_isAmong (i := 7) (by decide) hch (fun j hj hsc => ?_) (fun hno => ?_))
  · rw [sG_47.2.1] at hj
    have h47 := sG_47.2.2 j hj
    have hsp := spG_some (i := 4) (c := ch t (sk t a)) (j := j) (by decide) (by rw [sG_47.1]; exact hj) (by rw [h47.1]; exact hsc)
    have hp1 := sk_lt_of (t := t) (a := a) (c := ch t (sk t a)) rfl (by omega)
    refine go_if_eq (tgt := 31) dX12_atom_11 (by decide) (fun h11 => ?_) (fun h11 => ?_)
    · exact absurd h11 (by decide)
    · refine go_aload_n dX12_atom_14 rfl ?_
      refine go_dup dX12_atom_15 rfl ?_
      refine go_getI fX12_119 dX12_atom_16 rfl ?_
      refine go_iconst (v := iI 1) dX12_atom_19 (by decide) ?_
      refine go_iadd dX12_atom_20 ?_
      refine go_putI fX12_119 rfl dX12_atom_21 rfl rfl rfl ?_
      rw [msa_inc]
      refine go_aload_n dX12_atom_24 rfl ?_
      refine go_getR fX12_20 dX12_atom_25 rfl (hR _ _ _ rfl) ?_
      refine go_iload_n dX12_atom_28 rfl ?_
      refine go_iald dX12_atom_29 rfl (by exact vp_iI (by omega)) ?_
      refine go_iret rfl rfl dX12_atom_30 ?_
      rw [iI_cl (by omega), msa_ne _ _ _ _ (by decide), md_ne (by decide), ← hsc, (hE j hj).1]
      exact hK2 _ _ (atS_l (by omega) hsp) hp1
  · have hsp := spG_none (i := 4) (c := ch t (sk t a)) (fun j hj => by rw [sG_47.1] at hj; rw [(sG_47.2.2 j hj).1]; exact hno j (by rw [sG_47.2.1]; exact hj))
    refine go_if_eq (tgt := 31) dX12_atom_11 (by decide) (fun h11 => ?_) (fun h11 => ?_)
    · refine go_iload_n dX12_atom_31 rfl ?_
      refine go_bipush (v := iI 91) dX12_atom_32 (by decide) ?_
      refine go_icmp_ne (tgt := 74) dX12_atom_34 (by decide) (fun h34 => ?_) (fun h34 => ?_)
      · rw [iI_eq (by omega)] at h34
        refine go_aload_n dX12_atom_74 rfl ?_
        refine go_callV (as := []) wX12_168 dX12_atom_75 rfl rfl rfl rfl (Nat.le_of_ble_eq_true rfl) (ct_X12_isDigit ht (hXm _) hsk (fun hd => ?_) (fun hd => ?_))
        · refine go_if_ne (tgt := 86) dX12_atom_78 (by decide) (fun h78 => ?_) (fun h78 => ?_)
          · exact absurd h78 (by decide)
          · refine go_aload_n dX12_atom_81 rfl ?_
            refine go_callV (as := []) wX12_134 dX12_atom_82 rfl rfl rfl rfl (Nat.le_of_ble_eq_true rfl) (ct_X12_fails ?_)
            refine go_pop dX12_atom_85 rfl ?_
            refine go_iconst (v := iI 0) dX12_atom_86 (by decide) ?_
            refine go_istore_n dX12_atom_87 (Nat.le_of_ble_eq_true rfl) rfl ?_
            refine go_iconst (v := iI 0) dX12_atom_88 (by decide) ?_
            refine go_istore_n dX12_atom_89 (Nat.le_of_ble_eq_true rfl) rfl ?_
            refine go_aload_n dX12_atom_90 rfl ?_
            refine go_callV (as := []) wX12_168 dX12_atom_91 rfl rfl rfl rfl (Nat.le_of_ble_eq_true rfl) (ct_X12_isDigit ht (hXm _) hsk (fun hd2 => ?_) (fun hd2 => ?_))
            · refine go_if_eq (tgt := 156) dX12_atom_94 (by decide) (fun h94 => ?_) (fun h94 => ?_)
              · refine go_iload_n dX12_atom_156 rfl ?_
                refine go_iret rfl rfl dX12_atom_157 ?_
                exact hK1 _ _ _ ((atS_n h34 hsp).trans (numL_0 hd)) hsk rfl
              · exact absurd h94 (by decide)
            · exact absurd hd2 hd
        · refine go_if_ne (tgt := 86) dX12_atom_78 (by decide) (fun h78 => ?_) (fun h78 => ?_)
          · refine go_iconst (v := iI 0) dX12_atom_86 (by decide) ?_
            refine go_istore_n dX12_atom_87 (Nat.le_of_ble_eq_true rfl) rfl ?_
            refine go_iconst (v := iI 0) dX12_atom_88 (by decide) ?_
            refine go_istore_n dX12_atom_89 (Nat.le_of_ble_eq_true rfl) rfl ?_
            simp only [List.set]
            exact it_X12_atom ht hX hd (fun kd => by have := isD_lt (kd 4 (by omega)); exact hK1 _ _ _ ((atS_n h34 hsp).trans (numL_5 kd)) (by omega) rfl) (fun k k1 k2 kd kn => by have := isD_lt (kd (k - 1) (by omega)); exact hK2 _ _ ((atS_n h34 hsp).trans (numL_k k1 k2 kd kn)) (by omega)) 5 0 (by omega) (by omega) hsk (fun i hi => by omega)
          · exact absurd h78 (by decide)
      · rw [iI_eq (by omega)] at h34
        have hp1 := sk_lt_of h34 (by decide)
        refine go_aload_n dX12_atom_37 rfl ?_
        refine go_callV (as := []) wX12_158 dX12_atom_38 rfl rfl rfl rfl (Nat.le_of_ble_eq_true rfl) (ct_X12_goesIn he (fun he0 => ?_) (fun e' he1 => ?_))
        · subst he0
          refine go_if_ne (tgt := 46) dX12_atom_41 (by decide) (fun h41 => ?_) (fun h41 => ?_)
          · exact absurd h41 (by decide)
          · refine go_iconst (v := iI 0) dX12_atom_44 (by decide) ?_
            refine go_iret rfl rfl dX12_atom_45 ?_
            exact hK1 _ _ _ (atS_0 h34) hsk rfl
        · subst he1
          refine go_if_ne (tgt := 46) dX12_atom_41 (by decide) (fun h41 => ?_) (fun h41 => ?_)
          · refine go_aload_n dX12_atom_46 rfl ?_
            refine go_callV (as := []) wX12_161 dX12_atom_47 rfl rfl rfl rfl (Nat.le_of_ble_eq_true rfl) (hrec e' rfl _ (sk t a + 1) hp1 (fun q v w hq hle hB => ?_) (fun q c hq hle => ?_))
            · refine go_istore_n dX12_atom_50 (Nat.le_of_ble_eq_true rfl) rfl ?_
              refine go_aload_n dX12_atom_51 rfl ?_
              refine go_bipush (v := iI 93) dX12_atom_52 (by decide) ?_
              refine go_callV (as := [_]) wX12_164 dX12_atom_54 rfl rfl rfl rfl (Nat.le_of_ble_eq_true rfl) (ct_X12_takes2 (t := t) (by omega) ?_)
              refine go_if_ne (tgt := 62) dX12_atom_57 (by decide) (fun h57 => ?_) (fun h57 => ?_)
              · exact absurd h57 (by decide)
              · refine go_iconst (v := iI 0) dX12_atom_60 (by decide) ?_
                refine go_iret rfl rfl dX12_atom_61 ?_
                exact hK1 _ _ _ (atS_b h34 hq) hle rfl
            · refine go_istore_n dX12_atom_50 (Nat.le_of_ble_eq_true rfl) rfl ?_
              refine go_aload_n dX12_atom_51 rfl ?_
              refine go_bipush (v := iI 93) dX12_atom_52 (by decide) ?_
              refine go_callV (as := [_]) wX12_164 dX12_atom_54 rfl rfl rfl rfl (Nat.le_of_ble_eq_true rfl) (ct_X12_takes (c := 93) ht (hXm _) hle (by decide) (fun hne => ?_) (fun heq => ?_))
              · refine go_if_ne (tgt := 62) dX12_atom_57 (by decide) (fun h57 => ?_) (fun h57 => ?_)
                · exact absurd h57 (by decide)
                · refine go_iconst (v := iI 0) dX12_atom_60 (by decide) ?_
                  refine go_iret rfl rfl dX12_atom_61 ?_
                  exact hK1 _ _ _ (atS_d h34 hq hne) (sk_le hle) rfl
              · have hp2 := sk_lt_of heq (by decide)
                have hsq := sk_le hle
                refine go_if_ne (tgt := 62) dX12_atom_57 (by decide) (fun h57 => ?_) (fun h57 => ?_)
                · refine go_aload_n dX12_atom_62 rfl ?_
                  refine go_dup dX12_atom_63 rfl ?_
                  refine go_getI fX12_131 dX12_atom_64 rfl ?_
                  refine go_iconst (v := iI 1) dX12_atom_67 (by decide) ?_
                  refine go_isub dX12_atom_68 ?_
                  refine go_putI fX12_131 rfl dX12_atom_69 rfl rfl rfl ?_
                  rw [msa_fd _ _ _ _ (by decide) (by decide), md_w, md_put, show dw e' - iI 1 = dw (e' + 1) by unfold dw; rw [iI_sub]; congr 1; omega]
                  refine go_iload_n dX12_atom_72 rfl ?_
                  refine go_iret rfl rfl dX12_atom_73 ?_
                  exact hK2 _ _ (atS_c h34 hq heq) hp2
                · exact absurd h57 (by decide)
          · exact absurd h41 (by decide)
    · exact absurd h11 (by decide)
