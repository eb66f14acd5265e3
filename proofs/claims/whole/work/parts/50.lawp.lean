/-! clauses and laws, the model's way; o: the worth found so far -/
def gv (τ : AS) (o : Option Int) : AS := sI τ 111 (upd (upd (τ.1 111) 17 (iI (if o.isSome = true then 1 else 0))) 14 (iI (o.getD 0)))
def nx (o : Option Int) (b v : Int) : Option Int := match o with
  | some u => some u
  | none => if b ≠ 0 then some v else none
def clB (ev : Nat → Int) (c : CL) : Int := match c.1 with
  | none => 1
  | some x => x.2 ev
def nxC (ev : Nat → Int) (o : Option Int) (c : CL) : Option Int := nx o (clB ev c) (c.2.2 ev)
theorem nx_some (ev : Nat → Int) (u : Int) : ∀ L : List CL, L.foldl (nxC ev) (some u) = some u
  | [] => rfl
  | c :: L => by rw [List.foldl_cons]; exact nx_some ev u L
theorem lawV_fold (ev : Nat → Int) : ∀ L : List CL, lawV ev L = (L.foldl (nxC ev) none).getD 0
  | [] => rfl
  | (none, y) :: L => by rw [List.foldl_cons, show nxC ev none (none, y) = some (y.2 ev) from rfl, nx_some]; rfl
  | (some x, y) :: L => by
    rw [List.foldl_cons]
    unfold lawV
    by_cases h : x.2 ev ≠ 0
    · rw [if_pos h, show nxC ev none (some x, y) = some (y.2 ev) from if_pos h, nx_some]; rfl
    · rw [if_neg h, show nxC ev none (some x, y) = none from if_neg h]; exact lawV_fold ev L
theorem gv_ne {τ : AS} {o : Option Int} {k : Nat} (h : k ≠ 111) : (gv τ o).1 k = τ.1 k := by unfold gv; rw [sI_ne _ _ _ _ h]
theorem gv_fd {τ : AS} {o : Option Int} {j : Nat} (h : j ≠ 17) (h2 : j ≠ 14) : (gv τ o).1 111 j = τ.1 111 j := by unfold gv; rw [sI_same, upd_ne _ _ _ _ h2, upd_ne _ _ _ _ h]
theorem gv_h {τ : AS} {o : Option Int} : (gv τ o).1 111 17 = iI (if o.isSome = true then 1 else 0) := by unfold gv; rw [sI_same, upd_ne _ _ _ _ (by decide), upd_same]
theorem gv_f {τ : AS} {o : Option Int} : (gv τ o).1 111 14 = iI (o.getD 0) := by unfold gv; rw [sI_same, upd_same]
theorem TX_gv {τ : AS} {o : Option Int} {tx b : Nat} {t : List Nat} (h : TX τ tx b t) : TX (gv τ o) tx b t := by
  have := TX_fd (v := iI (o.getD 0)) (TX_fd (v := iI (if o.isSome = true then 1 else 0)) h (show 17 ≠ 8 by decide) (show 17 ≠ 9 by decide)) (show 14 ≠ 8 by decide) (show 14 ≠ 9 by decide)
  rw [sI_same, sI_sI] at this
  exact this
theorem msa_put {τ : AS} {j a : Nat} {f : Int} {v : Int32} (h : j ≠ 10) (h2 : j ≠ 11) : sI (msa τ a f) 111 (upd ((msa τ a f).1 111) j v) = msa (sI τ 111 (upd (τ.1 111) j v)) a f := by
  unfold msa
  rw [sI_same, sI_same, sI_sI, sI_sI, upd_comm _ 11 j _ _ (fun q => h2 q.symm), upd_comm _ 10 j _ _ (fun q => h q.symm)]
theorem md_put2 {τ : AS} {j : Nat} {w v : Int32} (h : j ≠ 12) : sI (md τ w) 111 (upd ((md τ w).1 111) j v) = md (sI τ 111 (upd (τ.1 111) j v)) w := by
  unfold md
  rw [sI_same, sI_same, sI_sI, sI_sI, upd_comm _ 12 j _ _ (fun q => h q.symm)]
theorem gv_set {τ : AS} {o : Option Int} {v : Int} : sI (sI (gv τ o) 111 (upd ((gv τ o).1 111) 17 (iI 1))) 111 (upd ((sI (gv τ o) 111 (upd ((gv τ o).1 111) 17 (iI 1))).1 111) 14 (iI v)) = gv τ (some v) := by
  unfold gv
  simp only [sI_same, sI_sI]
  rw [upd_comm _ 14 17 _ _ (by decide), upd_upd, upd_upd]
  rfl
theorem gv_set0 {τ : AS} : sI (sI τ 111 (upd (τ.1 111) 17 (iI 0))) 111 (upd ((sI τ 111 (upd (τ.1 111) 17 (iI 0))).1 111) 14 (iI 0)) = gv τ none := by
  unfold gv
  simp only [sI_same, sI_sI]
  rfl
theorem EV_gv {τ : AS} {o : Option Int} {ev : Nat → Int} (h : EV τ ev) : EV (gv τ o) ev := fun j hj => by rw [gv_ne (by decide)]; exact h j hj
theorem dw6 : dw 6 = iI 0 := rfl
theorem bS1 {t : List Nat} {b q : Nat} (h : ch t (sk t b) = 33 ∨ ch t (sk t b) = 40) (h2 : cdS t (unE t 6) b = (q, none)) : bdS t b = (q, none) := by
  unfold bdS; rw [if_pos h]; rw [cdS_eq] at h2
  cases e : unE t 6 b with
  | mk p oc =>
    rw [e] at h2
    cases oc with
    | none => exact congrArg (fun z : RS => (z.1, (none : Option CL))) h2
    | some u => dsimp only at h2 ⊢; unfold tlS; rw [h2]
theorem bS2 {t : List Nat} {b q : Nat} {x : CV} (h : ch t (sk t b) = 33 ∨ ch t (sk t b) = 40) (h2 : cdS t (unE t 6) b = (q, some x)) : bdS t b = (match anS t q with | (s, none) => (s, none) | (s, some y) => (s, some (some x, y))) := by
  unfold bdS; rw [if_pos h]; rw [cdS_eq] at h2
  cases e : unE t 6 b with
  | mk p oc =>
    rw [e] at h2
    cases oc with
    | none => cases h2
    | some u => dsimp only at h2 ⊢; unfold tlS; rw [h2]; rfl
theorem bS3 {t : List Nat} {b q : Nat} (h : ¬ (ch t (sk t b) = 33 ∨ ch t (sk t b) = 40)) (h2 : smE t 6 b = (q, none)) : bdS t b = (q, none) := by unfold bdS; rw [if_neg h, h2]
theorem bS4 {t : List Nat} {b q : Nat} {x : CV} (h : ¬ (ch t (sk t b) = 33 ∨ ch t (sk t b) = 40)) (h2 : smE t 6 b = (q, some x)) (h3 : cmpO (ch t (sk t q)) = 0) : bdS t b = (sk t q, some (none, x)) := by unfold bdS; rw [if_neg h, h2]; dsimp only; rw [if_pos h3]
theorem cn_sk {t : List Nat} {q : Nat} {x : CV} : cnS t 6 (ptS t 6 x) (sk t q) = cnS t 6 (ptS t 6 x) q := by
  rw [cnS_pt, cnS_pt]
  have e9 : cpS t 6 (sk t q) x = cpS t 6 q x := by unfold cpS; rw [sk_sk]
  rw [e9]
theorem bS5 {t : List Nat} {b q r : Nat} {x : CV} (h : ¬ (ch t (sk t b) = 33 ∨ ch t (sk t b) = 40)) (h2 : smE t 6 b = (q, some x)) (h3 : cmpO (ch t (sk t q)) ≠ 0) (h4 : cnS t 6 (ptS t 6 x) q = (r, none)) : bdS t b = (r, none) := by
  unfold bdS; rw [if_neg h, h2]; dsimp only; rw [if_neg h3]
  rw [cnS_pt] at h4
  cases e : cpS t 6 q x with
  | mk p oc =>
    rw [e] at h4
    cases oc with
    | none => exact congrArg (fun z : RS => (z.1, (none : Option CL))) h4
    | some u => dsimp only at h4 ⊢; unfold tlS; rw [h4]
theorem bS6 {t : List Nat} {b q r : Nat} {x y : CV} (h : ¬ (ch t (sk t b) = 33 ∨ ch t (sk t b) = 40)) (h2 : smE t 6 b = (q, some x)) (h3 : cmpO (ch t (sk t q)) ≠ 0) (h4 : cnS t 6 (ptS t 6 x) q = (r, some y)) : bdS t b = (match anS t r with | (s, none) => (s, none) | (s, some z) => (s, some (some y, z))) := by
  unfold bdS; rw [if_neg h, h2]; dsimp only; rw [if_neg h3]
  rw [cnS_pt] at h4
  cases e : cpS t 6 q x with
  | mk p oc =>
    rw [e] at h4
    cases oc with
    | none => cases h4
    | some u => dsimp only at h4 ⊢; unfold tlS; rw [h4]; rfl
theorem anS_0 {t : List Nat} {q : Nat} (h : ch t (sk t q) ≠ 63) : anS t q = (sk t q, none) := by unfold anS; rw [if_neg h]
theorem anS_1 {t : List Nat} {q : Nat} (h : ch t (sk t q) = 63) : anS t q = smE t 6 (sk t q + 1) := by unfold anS; rw [if_pos h]
theorem cn_ex {t : List Nat} {q r : Nat} {x y : CV} (hx : Ex false 15 x) (h : cnS t 6 (ptS t 6 x) q = (r, some y)) : Ex true 18 y := by
  rw [cnS_pt] at h
  cases e : cpS t 6 q x with
  | mk p oc =>
    rw [e] at h
    cases oc with
    | none => cases h
    | some u => exact mtS_ex (m := 16) (cpS_ex hx (by decide) (by decide) e) (by decide) (by decide) h
theorem c134_M {l : Launch} {D : va_G} {cA ad : Nat → Nat} {d : Nat} {τ : AS} {o : Option Int} {K : Option Value → AS → Prop} {q : Nat} {bi v : Int} {v4 : Value} (hlb : τ.1 111 13 = iI 121) (hbi : bdK true bi) (hK : K none (msa (md (gv τ (nx o bi v)) (dw 6)) q (-1))) : Go l D cA ad d mX12_clause 134 [.ref 111, .int (iI 121), .int (iI bi), .int (iI v), v4] [] (msa (md (gv τ o) (dw 6)) q (-1)) K := by
  refine go_aload_n dX12_clause_134 rfl ?_
  refine go_getI fX12_128 dX12_clause_135 rfl ?_
  refine go_iconst (v := iI (-1)) dX12_clause_138 (by decide) ?_
  refine go_icmp_ne (tgt := 161) dX12_clause_139 (by decide) (fun h139 => ?_) (fun h139 => ?_)
  · rw [msa_ft] at h139
    exact absurd rfl h139
  · refine go_aload_n dX12_clause_142 rfl ?_
    refine go_getI fX12_197 dX12_clause_143 rfl ?_
    refine go_if_ne (tgt := 161) dX12_clause_146 (by decide) (fun h146 => ?_) (fun h146 => ?_)
    · rw [msa_fd _ _ _ _ (by decide) (by decide), md_fd (by decide), gv_h] at h146
      refine go_vret rfl dX12_clause_161 ?_
      have e9 : nx o bi v = o := by
        cases o with
        | none => exact absurd rfl h146
        | some u => rfl
      rw [e9] at hK
      exact hK
    · rw [msa_fd _ _ _ _ (by decide) (by decide), md_fd (by decide), gv_h] at h146
      refine go_iload_n dX12_clause_149 rfl ?_
      refine go_aload_n dX12_clause_150 rfl ?_
      refine go_getI fX12_201 dX12_clause_151 rfl ?_
      refine go_icmp_ne (tgt := 161) dX12_clause_154 (by decide) (fun h154 => ?_) (fun h154 => ?_)
      · rw [msa_fd _ _ _ _ (by decide) (by decide), md_fd (by decide), gv_fd (by decide) (by decide), hlb] at h154
        exact absurd rfl h154
      · refine go_iload_n dX12_clause_157 rfl ?_
        refine go_if_ne (tgt := 162) dX12_clause_158 (by decide) (fun h158 => ?_) (fun h158 => ?_)
        · refine go_aload_n dX12_clause_162 rfl ?_
          refine go_iconst (v := iI 1) dX12_clause_163 (by decide) ?_
          refine go_putI fX12_197 rfl dX12_clause_164 rfl rfl rfl ?_
          refine go_aload_n dX12_clause_167 rfl ?_
          refine go_iload_n dX12_clause_168 rfl ?_
          refine go_putI fX12_204 rfl dX12_clause_169 rfl rfl rfl ?_
          refine go_vret rfl dX12_clause_172 ?_
          rw [msa_put (by decide) (by decide), msa_put (by decide) (by decide), md_put2 (by decide), md_put2 (by decide), gv_set]
          have e9 : nx o bi v = some v := by
            cases o with
            | none => exact if_pos (fun q2 => h158 (by rw [q2]; rfl))
            | some u => exact absurd h146 (show ¬ iI 1 = 0 by decide)
          rw [e9] at hK
          exact hK
        · refine go_vret rfl dX12_clause_161 ?_
          have e9 : nx o bi v = o := by
            cases o with
            | none => exact if_neg (fun q2 => by rw [iI_eq0 (by rcases hbi with q3 | q3 <;> omega)] at h158; exact q2 h158)
            | some u => rfl
          rw [e9] at hK
          exact hK
theorem cd_sk {t : List Nat} {a : Nat} : cdS t (unE t 6) (sk t a) = cdS t (unE t 6) a := by unfold cdS paS; exact rnS_sk (rnS_sk unE_sk)
theorem cl_M {l : Launch} {D : va_G} {cA ad : Nat → Nat} {d tx b : Nat} {τ : AS} {ev : Nat → Int} {t : List Nat} {o : Option Int} {K : Option Value → AS → Prop} {a : Nat} (ht : TOK t) (hR : RO τ) (hX : TX τ tx b t) (hE : EV τ ev) (hlb : τ.1 111 13 = iI 121) (ha : a ≤ t.length) (hK1 : ∀ q w, clC t a = (q, none) → q ≤ t.length → K none (msa (md (gv τ o) w) q q)) (hK2 : ∀ q c, clC t a = (q, some c) → q ≤ t.length → K none (msa (md (gv τ (nxC ev o c)) (dw 6)) q (-1))) : Call l D cA ad (d + 30) mX12_clause [.ref 111] (msa (md (gv τ o) (dw 6)) a (-1)) K := by
  have ht1 := ht.1
  have hRg : RO (gv τ o) := hR
  have hXg : TX (gv τ o) tx b t := TX_gv hX
  have hEg : EV (gv τ o) ev := EV_gv hE
  have hXm : ∀ w, TX (md (gv τ o) w) tx b t := fun w => TX_md hXg
  have hch := ch_lt ht (sk t a)
  have hsk := sk_le ha
  refine call_go (by decide) (Nat.le_of_ble_eq_true rfl) (show Go l D cA ad (d + 30) mX12_clause 0 [.ref 111, .null, .null, .null, .null] [] (msa (md (gv τ o) (dw 6)) a (-1)) K from ?_)
  refine go_aload_n dX12_clause_0 rfl ?_
  refine go_callV (as := []) wX12_138 dX12_clause_1 rfl rfl rfl rfl (Nat.le_of_ble_eq_true rfl) (ct_X12_look ht (hXm _) ha ?_)
  refine go_istore_n dX12_clause_4 (Nat.le_of_ble_eq_true rfl) rfl ?_
  refine go_ldcS (i := 6) (by decide) rfl dX12_clause_5 ?_
  refine go_iload_n dX12_clause_7 rfl ?_
  refine go_callS (as := [_, _]) wX12_154 dX12_clause_8 rfl rfl (Nat.le_of_ble_eq_true rfl) (ct_X12_isAmong (i := 6) (by decide) hch (fun j hj hsc => ?_) (fun hno => ?_))
  · have hy : ch t (sk t a) = 121 := by
      rw [← hsc]
      have h61 : (strB 6).length = 1 := by decide
      rw [h61] at hj
      rw [show j = 0 by omega]
      decide +kernel
    rw [hy]
    have hp1 := sk_lt_of (t := t) (a := a) hy (by decide)
    refine go_if_ne (tgt := 20) dX12_clause_11 (by decide) (fun h11 => ?_) (fun h11 => ?_)
    · refine go_aload_n dX12_clause_20 rfl ?_
      refine go_dup dX12_clause_21 rfl ?_
      refine go_getI fX12_119 dX12_clause_22 rfl ?_
      refine go_iconst (v := iI 1) dX12_clause_25 (by decide) ?_
      refine go_iadd dX12_clause_26 ?_
      refine go_putI fX12_119 rfl dX12_clause_27 rfl rfl rfl ?_
      rw [msa_inc]
      refine go_aload_n dX12_clause_30 rfl ?_
      refine go_bipush (v := iI 58) dX12_clause_31 (by decide) ?_
      refine go_callV (as := [_]) wX12_164 dX12_clause_33 rfl rfl rfl rfl (Nat.le_of_ble_eq_true rfl) (ct_X12_takes (c := 58) ht (hXm _) hp1 (by decide) (fun hne2 => ?_) (fun heq2 => ?_))
      · refine go_if_ne (tgt := 40) dX12_clause_36 (by decide) (fun h36 => ?_) (fun h36 => ?_)
        · exact absurd h36 (by decide)
        · refine go_vret rfl dX12_clause_39 ?_
          exact hK1 _ _ (by unfold clC; rw [if_pos hy, if_neg hne2]) (sk_le hp1)
      · have hp2 := sk_lt_of (t := t) (a := sk t a + 1) heq2 (by decide)
        have hbS : clC t a = bdS t (sk t (sk t a + 1) + 1) := by unfold clC; rw [if_pos hy, if_pos heq2]
        generalize hb : sk t (sk t a + 1) + 1 = b0 at hp2 hbS ⊢
        have hskb := sk_le hp2
        have hchb := ch_lt ht (sk t b0)
        refine go_if_ne (tgt := 40) dX12_clause_36 (by decide) (fun h36 => ?_) (fun h36 => ?_)
        · refine go_iconst (v := iI 1) dX12_clause_40 (by decide) ?_
          refine go_istore_n dX12_clause_41 (Nat.le_of_ble_eq_true rfl) rfl ?_
          refine go_iconst (v := iI 0) dX12_clause_42 (by decide) ?_
          refine go_istore_n dX12_clause_43 (Nat.le_of_ble_eq_true rfl) rfl ?_
          refine go_aload_n dX12_clause_44 rfl ?_
          refine go_callV (as := []) wX12_138 dX12_clause_45 rfl rfl rfl rfl (Nat.le_of_ble_eq_true rfl) (ct_X12_look ht (hXm _) hp2 ?_)
          refine go_istore dX12_clause_48 (Nat.le_of_ble_eq_true rfl) rfl ?_
          refine go_iload dX12_clause_50 rfl ?_
          refine go_bipush (v := iI 33) dX12_clause_52 (by decide) ?_
          refine go_icmp_eq (tgt := 64) dX12_clause_54 (by decide) (fun h54 => ?_) (fun h54 => ?_)
          · rw [iI_eq (by omega)] at h54
            have hcc : ch t (sk t b0) = 33 ∨ ch t (sk t b0) = 40 := Or.inl h54
            refine go_aload_n dX12_clause_64 rfl ?_
            refine go_iconst (v := iI 0) dX12_clause_65 (by decide) ?_
            refine go_iconst (v := iI 0) dX12_clause_66 (by decide) ?_
            refine go_callV (as := [_, _]) wX12_187 dX12_clause_67 rfl rfl rfl rfl (Nat.le_of_ble_eq_true rfl) (condM ht hRg hXg hEg d _ (sk t b0) hskb (fun q v w hq hle hB => ?_) (fun q x hq hle => ?_))
            · rw [cd_sk] at hq
              refine go_istore_n dX12_clause_70 (Nat.le_of_ble_eq_true rfl) rfl ?_
              simp only [List.set]
              refine go_aload_n dX12_clause_71 rfl ?_
              refine go_bipush (v := iI 63) dX12_clause_72 (by decide) ?_
              refine go_callV (as := [_]) wX12_164 dX12_clause_74 rfl rfl rfl rfl (Nat.le_of_ble_eq_true rfl) (ct_X12_takes2 (t := t) (by omega) ?_)
              refine go_if_ne (tgt := 81) dX12_clause_77 (by decide) (fun h77 => ?_) (fun h77 => ?_)
              · exact absurd h77 (by decide)
              · refine go_vret rfl dX12_clause_80 ?_
                exact hK1 _ _ (hbS.trans (bS1 hcc hq)) hle
            · rw [cd_sk] at hq
              have hxb : bdK true (x.2 ev) := (cdS_ex (unE_ex 6) _ _ _ hq).bd (fun j hj => (hE j hj).2)
              refine go_istore_n dX12_clause_70 (Nat.le_of_ble_eq_true rfl) rfl ?_
              simp only [List.set]
              refine go_aload_n dX12_clause_71 rfl ?_
              refine go_bipush (v := iI 63) dX12_clause_72 (by decide) ?_
              refine go_callV (as := [_]) wX12_164 dX12_clause_74 rfl rfl rfl rfl (Nat.le_of_ble_eq_true rfl) (ct_X12_takes (c := 63) ht (hXm _) hle (by decide) (fun hne => ?_) (fun heq => ?_))
              · refine go_if_ne (tgt := 81) dX12_clause_77 (by decide) (fun h77 => ?_) (fun h77 => ?_)
                · exact absurd h77 (by decide)
                · refine go_vret rfl dX12_clause_80 ?_
                  exact hK1 _ _ (hbS.trans (by rw [bS2 hcc hq, anS_0 hne])) (sk_le hle)
              · have hp3 := sk_lt_of (t := t) heq (by decide)
                refine go_if_ne (tgt := 81) dX12_clause_77 (by decide) (fun h77 => ?_) (fun h77 => ?_)
                · refine go_aload_n dX12_clause_81 rfl ?_
                  refine go_callV (as := []) wX12_161 dX12_clause_82 rfl rfl rfl rfl (Nat.le_of_ble_eq_true rfl) (sumM ht hRg hXg hEg 6 (d + 4) (by decide) _ (sk t q + 1) hp3 (fun r v w hr hle3 hB => ?_) (fun r y hr hle3 => ?_))
                  · refine go_istore_n dX12_clause_85 (Nat.le_of_ble_eq_true rfl) rfl ?_
                    refine go_goto (tgt := 134) dX12_clause_86 (by decide) ?_
                    simp only [List.set]
                    refine go_aload_n dX12_clause_134 rfl ?_
                    refine go_getI fX12_128 dX12_clause_135 rfl ?_
                    refine go_iconst (v := iI (-1)) dX12_clause_138 (by decide) ?_
                    refine go_icmp_ne (tgt := 161) dX12_clause_139 (by decide) (fun h139 => ?_) (fun h139 => ?_)
                    · refine go_vret rfl dX12_clause_161 ?_
                      exact hK1 _ _ (hbS.trans (by rw [bS2 hcc hq, anS_1 heq, hr])) hle3
                    · exfalso
                      rw [msa_ft, iI_eq (by omega)] at h139
                      omega
                  · refine go_istore_n dX12_clause_85 (Nat.le_of_ble_eq_true rfl) rfl ?_
                    refine go_goto (tgt := 134) dX12_clause_86 (by decide) ?_
                    simp only [List.set]
                    have hbs2 : clC t a = (r, some (some x, y)) := hbS.trans (by rw [bS2 hcc hq, anS_1 heq, hr])
                    have h9 := hK2 _ _ hbs2 hle3
                    rw [show nxC ev o (some x, y) = nx o (x.2 ev) (y.2 ev) from rfl] at h9
                    exact c134_M hlb hxb h9
                · exact absurd h77 (by decide)
          · rw [iI_eq (by omega)] at h54
            refine go_iload dX12_clause_57 rfl ?_
            refine go_bipush (v := iI 40) dX12_clause_59 (by decide) ?_
            refine go_icmp_ne (tgt := 89) dX12_clause_61 (by decide) (fun h61 => ?_) (fun h61 => ?_)
            · rw [iI_eq (by omega)] at h61
              have hcc : ¬ (ch t (sk t b0) = 33 ∨ ch t (sk t b0) = 40) := by omega
              refine go_aload_n dX12_clause_89 rfl ?_
              refine go_callV (as := []) wX12_161 dX12_clause_90 rfl rfl rfl rfl (Nat.le_of_ble_eq_true rfl) (sumM ht hRg hXg hEg 6 (d + 4) (by decide) _ (sk t b0) hskb (fun q v w hq hle hB => ?_) (fun q x hq hle => ?_))
              · rw [smE_sk] at hq
                refine go_istore_n dX12_clause_93 (Nat.le_of_ble_eq_true rfl) rfl ?_
                simp only [List.set]
                refine go_aload_n dX12_clause_94 rfl ?_
                refine go_getI fX12_128 dX12_clause_95 rfl ?_
                refine go_iconst (v := iI (-1)) dX12_clause_98 (by decide) ?_
                refine go_icmp_ne (tgt := 134) dX12_clause_99 (by decide) (fun h99 => ?_) (fun h99 => ?_)
                · refine go_aload_n dX12_clause_134 rfl ?_
                  refine go_getI fX12_128 dX12_clause_135 rfl ?_
                  refine go_iconst (v := iI (-1)) dX12_clause_138 (by decide) ?_
                  refine go_icmp_ne (tgt := 161) dX12_clause_139 (by decide) (fun h139 => ?_) (fun h139 => ?_)
                  · refine go_vret rfl dX12_clause_161 ?_
                    exact hK1 _ _ (hbS.trans (bS3 hcc hq)) hle
                  · exfalso
                    rw [msa_ft, iI_eq (by omega)] at h139
                    omega
                · exfalso
                  rw [msa_ft, iI_eq (by omega)] at h99
                  omega
              · rw [smE_sk] at hq
                have hxe := smE_ex 6 _ _ _ hq
                have hskq := sk_le hle
                have hchq := ch_lt ht (sk t q)
                refine go_istore_n dX12_clause_93 (Nat.le_of_ble_eq_true rfl) rfl ?_
                simp only [List.set]
                refine go_aload_n dX12_clause_94 rfl ?_
                refine go_getI fX12_128 dX12_clause_95 rfl ?_
                refine go_iconst (v := iI (-1)) dX12_clause_98 (by decide) ?_
                refine go_icmp_ne (tgt := 134) dX12_clause_99 (by decide) (fun h99 => ?_) (fun h99 => ?_)
                · rw [msa_ft] at h99
                  exact absurd rfl h99
                · refine go_aload_n dX12_clause_102 rfl ?_
                  refine go_callV (as := []) wX12_138 dX12_clause_103 rfl rfl rfl rfl (Nat.le_of_ble_eq_true rfl) (ct_X12_look ht (hXm _) hle ?_)
                  refine go_callS (as := [_]) wX12_181 dX12_clause_106 rfl rfl (Nat.le_of_ble_eq_true rfl) (ct_X12_isSign hchq (fun hk => ?_) (fun hk => ?_))
                  · refine go_if_eq (tgt := 134) dX12_clause_109 (by decide) (fun h109 => ?_) (fun h109 => ?_)
                    · have h9 := hK2 _ (none, x) (hbS.trans (bS4 hcc hq hk)) hskq
                      rw [show nxC ev o (none, x) = nx o 1 (x.2 ev) from rfl] at h9
                      exact c134_M hlb (Or.inr rfl) h9
                    · exact absurd h109 (by decide)
                  · refine go_if_eq (tgt := 134) dX12_clause_109 (by decide) (fun h109 => ?_) (fun h109 => ?_)
                    · exact absurd h109 (by decide)
                    · refine go_aload_n dX12_clause_112 rfl ?_
                      refine go_iconst (v := iI 1) dX12_clause_113 (by decide) ?_
                      refine go_iload_n dX12_clause_114 rfl ?_
                      refine go_callV (as := [_, _]) wX12_187 dX12_clause_115 rfl rfl rfl rfl (Nat.le_of_ble_eq_true rfl) (conTM ht hRg hXg hEg hxe d _ (sk t q) hskq (fun r0 v w hq2 hle hB => ?_) (fun r0 x2 hq2 hle => ?_))
                      · rw [cn_sk] at hq2
                        refine go_istore_n dX12_clause_118 (Nat.le_of_ble_eq_true rfl) rfl ?_
                        simp only [List.set]
                        refine go_aload_n dX12_clause_119 rfl ?_
                        refine go_bipush (v := iI 63) dX12_clause_120 (by decide) ?_
                        refine go_callV (as := [_]) wX12_164 dX12_clause_122 rfl rfl rfl rfl (Nat.le_of_ble_eq_true rfl) (ct_X12_takes2 (t := t) (by omega) ?_)
                        refine go_if_ne (tgt := 129) dX12_clause_125 (by decide) (fun h125 => ?_) (fun h125 => ?_)
                        · exact absurd h125 (by decide)
                        · refine go_vret rfl dX12_clause_128 ?_
                          exact hK1 _ _ (hbS.trans (bS5 hcc hq hk hq2)) hle
                      · rw [cn_sk] at hq2
                        have hxb : bdK true (x2.2 ev) := (cn_ex hxe hq2).bd (fun j hj => (hE j hj).2)
                        refine go_istore_n dX12_clause_118 (Nat.le_of_ble_eq_true rfl) rfl ?_
                        simp only [List.set]
                        refine go_aload_n dX12_clause_119 rfl ?_
                        refine go_bipush (v := iI 63) dX12_clause_120 (by decide) ?_
                        refine go_callV (as := [_]) wX12_164 dX12_clause_122 rfl rfl rfl rfl (Nat.le_of_ble_eq_true rfl) (ct_X12_takes (c := 63) ht (hXm _) hle (by decide) (fun hne => ?_) (fun heq => ?_))
                        · refine go_if_ne (tgt := 129) dX12_clause_125 (by decide) (fun h125 => ?_) (fun h125 => ?_)
                          · exact absurd h125 (by decide)
                          · refine go_vret rfl dX12_clause_128 ?_
                            exact hK1 _ _ (hbS.trans (by rw [bS6 hcc hq hk hq2, anS_0 hne])) (sk_le hle)
                        · have hp3 := sk_lt_of (t := t) heq (by decide)
                          refine go_if_ne (tgt := 129) dX12_clause_125 (by decide) (fun h125 => ?_) (fun h125 => ?_)
                          · refine go_aload_n dX12_clause_129 rfl ?_
                            refine go_callV (as := []) wX12_161 dX12_clause_130 rfl rfl rfl rfl (Nat.le_of_ble_eq_true rfl) (sumM ht hRg hXg hEg 6 (d + 4) (by decide) _ (sk t r0 + 1) hp3 (fun r v w hr hle3 hB => ?_) (fun r y hr hle3 => ?_))
                            · refine go_istore_n dX12_clause_133 (Nat.le_of_ble_eq_true rfl) rfl ?_
                              simp only [List.set]
                              refine go_aload_n dX12_clause_134 rfl ?_
                              refine go_getI fX12_128 dX12_clause_135 rfl ?_
                              refine go_iconst (v := iI (-1)) dX12_clause_138 (by decide) ?_
                              refine go_icmp_ne (tgt := 161) dX12_clause_139 (by decide) (fun h139 => ?_) (fun h139 => ?_)
                              · refine go_vret rfl dX12_clause_161 ?_
                                exact hK1 _ _ (hbS.trans (by rw [bS6 hcc hq hk hq2, anS_1 heq, hr])) hle3
                              · exfalso
                                rw [msa_ft, iI_eq (by omega)] at h139
                                omega
                            · refine go_istore_n dX12_clause_133 (Nat.le_of_ble_eq_true rfl) rfl ?_
                              simp only [List.set]
                              have hbs2 : clC t a = (r, some (some x2, y)) := hbS.trans (by rw [bS6 hcc hq hk hq2, anS_1 heq, hr])
                              have h9 := hK2 _ _ hbs2 hle3
                              rw [show nxC ev o (some x2, y) = nx o (x2.2 ev) (y.2 ev) from rfl] at h9
                              exact c134_M hlb hxb h9
                          · exact absurd h125 (by decide)
            · rw [iI_eq (by omega)] at h61
              have hcc : ch t (sk t b0) = 33 ∨ ch t (sk t b0) = 40 := Or.inr h61
              refine go_aload_n dX12_clause_64 rfl ?_
              refine go_iconst (v := iI 0) dX12_clause_65 (by decide) ?_
              refine go_iconst (v := iI 0) dX12_clause_66 (by decide) ?_
              refine go_callV (as := [_, _]) wX12_187 dX12_clause_67 rfl rfl rfl rfl (Nat.le_of_ble_eq_true rfl) (condM ht hRg hXg hEg d _ (sk t b0) hskb (fun q v w hq hle hB => ?_) (fun q x hq hle => ?_))
              · rw [cd_sk] at hq
                refine go_istore_n dX12_clause_70 (Nat.le_of_ble_eq_true rfl) rfl ?_
                simp only [List.set]
                refine go_aload_n dX12_clause_71 rfl ?_
                refine go_bipush (v := iI 63) dX12_clause_72 (by decide) ?_
                refine go_callV (as := [_]) wX12_164 dX12_clause_74 rfl rfl rfl rfl (Nat.le_of_ble_eq_true rfl) (ct_X12_takes2 (t := t) (by omega) ?_)
                refine go_if_ne (tgt := 81) dX12_clause_77 (by decide) (fun h77 => ?_) (fun h77 => ?_)
                · exact absurd h77 (by decide)
                · refine go_vret rfl dX12_clause_80 ?_
                  exact hK1 _ _ (hbS.trans (bS1 hcc hq)) hle
              · rw [cd_sk] at hq
                have hxb : bdK true (x.2 ev) := (cdS_ex (unE_ex 6) _ _ _ hq).bd (fun j hj => (hE j hj).2)
                refine go_istore_n dX12_clause_70 (Nat.le_of_ble_eq_true rfl) rfl ?_
                simp only [List.set]
                refine go_aload_n dX12_clause_71 rfl ?_
                refine go_bipush (v := iI 63) dX12_clause_72 (by decide) ?_
                refine go_callV (as := [_]) wX12_164 dX12_clause_74 rfl rfl rfl rfl (Nat.le_of_ble_eq_true rfl) (ct_X12_takes (c := 63) ht (hXm _) hle (by decide) (fun hne => ?_) (fun heq => ?_))
                · refine go_if_ne (tgt := 81) dX12_clause_77 (by decide) (fun h77 => ?_) (fun h77 => ?_)
                  · exact absurd h77 (by decide)
                  · refine go_vret rfl dX12_clause_80 ?_
                    exact hK1 _ _ (hbS.trans (by rw [bS2 hcc hq, anS_0 hne])) (sk_le hle)
                · have hp3 := sk_lt_of (t := t) heq (by decide)
                  refine go_if_ne (tgt := 81) dX12_clause_77 (by decide) (fun h77 => ?_) (fun h77 => ?_)
                  · refine go_aload_n dX12_clause_81 rfl ?_
                    refine go_callV (as := []) wX12_161 dX12_clause_82 rfl rfl rfl rfl (Nat.le_of_ble_eq_true rfl) (sumM ht hRg hXg hEg 6 (d + 4) (by decide) _ (sk t q + 1) hp3 (fun r v w hr hle3 hB => ?_) (fun r y hr hle3 => ?_))
                    · refine go_istore_n dX12_clause_85 (Nat.le_of_ble_eq_true rfl) rfl ?_
                      refine go_goto (tgt := 134) dX12_clause_86 (by decide) ?_
                      simp only [List.set]
                      refine go_aload_n dX12_clause_134 rfl ?_
                      refine go_getI fX12_128 dX12_clause_135 rfl ?_
                      refine go_iconst (v := iI (-1)) dX12_clause_138 (by decide) ?_
                      refine go_icmp_ne (tgt := 161) dX12_clause_139 (by decide) (fun h139 => ?_) (fun h139 => ?_)
                      · refine go_vret rfl dX12_clause_161 ?_
                        exact hK1 _ _ (hbS.trans (by rw [bS2 hcc hq, anS_1 heq, hr])) hle3
                      · exfalso
                        rw [msa_ft, iI_eq (by omega)] at h139
                        omega
                    · refine go_istore_n dX12_clause_85 (Nat.le_of_ble_eq_true rfl) rfl ?_
                      refine go_goto (tgt := 134) dX12_clause_86 (by decide) ?_
                      simp only [List.set]
                      have hbs2 : clC t a = (r, some (some x, y)) := hbS.trans (by rw [bS2 hcc hq, anS_1 heq, hr])
                      have h9 := hK2 _ _ hbs2 hle3
                      rw [show nxC ev o (some x, y) = nx o (x.2 ev) (y.2 ev) from rfl] at h9
                      exact c134_M hlb hxb h9
                  · exact absurd h77 (by decide)
        · exact absurd h36 (by decide)
    · exact absurd h11 (by decide)
  · have hy : ch t (sk t a) ≠ 121 := fun q2 => hno 0 (by decide) (by rw [q2]; decide +kernel)
    refine go_if_ne (tgt := 20) dX12_clause_11 (by decide) (fun h11 => ?_) (fun h11 => ?_)
    · exact absurd h11 (by decide)
    · refine go_aload_n dX12_clause_14 rfl ?_
      refine go_callV (as := []) wX12_134 dX12_clause_15 rfl rfl rfl rfl (Nat.le_of_ble_eq_true rfl) (ct_X12_fails ?_)
      refine go_pop dX12_clause_18 rfl ?_
      refine go_vret rfl dX12_clause_19 ?_
      exact hK1 _ _ (by unfold clC; rw [if_neg hy]) hsk
theorem it_goT {l : Launch} {D : va_G} {cA ad : Nat → Nat} {d tx b : Nat} {τ : AS} {ev : Nat → Int} {t : List Nat} {K : Option Value → AS → Prop} {v1 v2 v3 : Value} (ht : TOK t) (hR : RO τ) (hX : TX τ tx b t) (hE : EV τ ev) (hlb : τ.1 111 13 = iI 121) (hK1 : ∀ q o w, lwS t 242 0 [] = (q, none) → q ≤ t.length → K none (msa (md (gv τ o) w) q q)) (hK2 : ∀ q L, lwS t 242 0 [] = (q, some L) → q ≤ t.length → K none (msa (md (gv τ (L.foldl (nxC ev) none)) (dw 6)) q (-1))) : ∀ (n a q : Nat) (L : List CL) (c : CL), t.length - a < n → a ≤ t.length → q ≤ t.length → clC t a = (q, some c) → lwS t 242 0 [] = lwS t (n + 1) a L → Go l D cA ad (d + 31) mX12_goThrough 32 [.ref 111, v1, v2, v3] [] (msa (md (gv τ ((L ++ [c]).foldl (nxC ev) none)) (dw 6)) q (-1)) K := by
  have ht1 := ht.1
  have hXm : ∀ o w, TX (md (gv τ o) w) tx b t := fun o w => TX_md (TX_gv hX)
  intro n
  induction n with
  | zero => intro a q L c h; omega
  | succ n ih =>
  intro a q L c hn ha hq0 hcl hres
  have hskq := sk_le hq0
  have hsgq := sk_ge t q
  have hchq := ch_lt ht (sk t q)
  have hga := clC_gd ha
  rw [hcl] at hga
  have hga2 := (hga.2.2 c rfl).1
  dsimp only at hga2
  refine go_aload_n dX12_goThrough_32 rfl ?_
  refine go_getI fX12_128 dX12_goThrough_33 rfl ?_
  refine go_iconst (v := iI (-1)) dX12_goThrough_36 (by decide) ?_
  refine go_icmp_ne (tgt := 66) dX12_goThrough_37 (by decide) (fun h37 => ?_) (fun h37 => ?_)
  · rw [msa_ft] at h37
    exact absurd rfl h37
  · refine go_aload_n dX12_goThrough_40 rfl ?_
    refine go_callV (as := []) wX12_138 dX12_goThrough_41 rfl rfl rfl rfl (Nat.le_of_ble_eq_true rfl) (ct_X12_look ht (hXm _ _) hq0 ?_)
    refine go_bipush (v := iI 59) dX12_goThrough_44 (by decide) ?_
    refine go_icmp_ne (tgt := 66) dX12_goThrough_46 (by decide) (fun h46 => ?_) (fun h46 => ?_)
    · rw [iI_eq (by omega)] at h46
      refine go_aload_n dX12_goThrough_66 rfl ?_
      refine go_getI fX12_128 dX12_goThrough_67 rfl ?_
      refine go_iconst (v := iI (-1)) dX12_goThrough_70 (by decide) ?_
      refine go_icmp_ne (tgt := 87) dX12_goThrough_71 (by decide) (fun h71 => ?_) (fun h71 => ?_)
      · rw [msa_ft] at h71
        exact absurd rfl h71
      · refine go_aload_n dX12_goThrough_74 rfl ?_
        refine go_callV (as := []) wX12_138 dX12_goThrough_75 rfl rfl rfl rfl (Nat.le_of_ble_eq_true rfl) (ct_X12_look ht (hXm _ _) hskq ?_)
        rw [sk_sk]
        refine go_iconst (v := iI (-1)) dX12_goThrough_78 (by decide) ?_
        refine go_icmp_eq (tgt := 87) dX12_goThrough_79 (by decide) (fun h79 => ?_) (fun h79 => ?_)
        · rw [iI_eq (by omega)] at h79
          refine go_vret rfl dX12_goThrough_87 ?_
          exact hK2 _ _ (hres.trans (lwS_e hcl h79)) hskq
        · rw [iI_eq (by omega)] at h79
          refine go_aload_n dX12_goThrough_82 rfl ?_
          refine go_callV (as := []) wX12_134 dX12_goThrough_83 rfl rfl rfl rfl (Nat.le_of_ble_eq_true rfl) (ct_X12_fails ?_)
          refine go_pop dX12_goThrough_86 rfl ?_
          refine go_vret rfl dX12_goThrough_87 ?_
          exact hK1 _ _ _ (hres.trans (lwS_x hcl h79 h46)) hskq
    · rw [iI_eq (by omega)] at h46
      refine go_aload_n dX12_goThrough_49 rfl ?_
      refine go_dup dX12_goThrough_50 rfl ?_
      refine go_getI fX12_119 dX12_goThrough_51 rfl ?_
      refine go_iconst (v := iI 1) dX12_goThrough_54 (by decide) ?_
      refine go_iadd dX12_goThrough_55 ?_
      refine go_putI fX12_119 rfl dX12_goThrough_56 rfl rfl rfl ?_
      rw [msa_inc]
      have hp1 := sk_lt_of h46 (by decide)
      refine go_aload_n dX12_goThrough_59 rfl ?_
      refine go_callV (as := []) wX12_211 dX12_goThrough_60 rfl rfl rfl rfl (Nat.le_of_ble_eq_true rfl) (cl_M ht hR hX hE hlb hp1 (fun q2 w2 hq2 hle2 => ?_) (fun q2 c2 hq2 hle2 => ?_))
      · refine go_goto (tgt := 32) dX12_goThrough_63 (by decide) ?_
        refine go_aload_n dX12_goThrough_32 rfl ?_
        refine go_getI fX12_128 dX12_goThrough_33 rfl ?_
        refine go_iconst (v := iI (-1)) dX12_goThrough_36 (by decide) ?_
        refine go_icmp_ne (tgt := 66) dX12_goThrough_37 (by decide) (fun h37 => ?_) (fun h37 => ?_)
        · refine go_aload_n dX12_goThrough_66 rfl ?_
          refine go_getI fX12_128 dX12_goThrough_67 rfl ?_
          refine go_iconst (v := iI (-1)) dX12_goThrough_70 (by decide) ?_
          refine go_icmp_ne (tgt := 87) dX12_goThrough_71 (by decide) (fun h71 => ?_) (fun h71 => ?_)
          · refine go_vret rfl dX12_goThrough_87 ?_
            exact hK1 _ _ _ (hres.trans (by rw [lwS_n hcl h46]; exact lwS_f hq2)) hle2
          · exfalso
            rw [msa_ft, iI_eq (by omega)] at h71
            omega
        · exfalso
          rw [msa_ft, iI_eq (by omega)] at h37
          omega
      · refine go_goto (tgt := 32) dX12_goThrough_63 (by decide) ?_
        have hgc := clC_gd hp1
        rw [hq2] at hgc
        have hgd2 := (hgc.2.2 c2 rfl).1
        dsimp only at hgd2
        rw [show nxC ev (((L ++ [c]).foldl (nxC ev) none)) c2 = (((L ++ [c]) ++ [c2]).foldl (nxC ev) none) from (List.foldl_append (f := nxC ev) (b := none) (l := L ++ [c]) (l' := [c2])).symm]
        exact ih (sk t q + 1) q2 (L ++ [c]) c2 (by omega) hp1 hle2 hq2 (hres.trans (lwS_n hcl h46))
/-- where goThrough leaves the model -/
def lbS (σ : AS) (tx b n : Nat) : AS := sI (stT σ tx b n) 111 (upd ((stT σ tx b n).1 111) 13 (iI 121))
theorem ct_X12_goThrough {l : Launch} {D : va_G} {cA ad : Nat → Nat} {d tx b : Nat} {σ : AS} {ev : Nat → Int} {t : List Nat} {K : Option Value → AS → Prop} (ht : TOK t) (hR : RO σ) (hX : TX (stT σ tx b t.length) tx b t) (hE : EV σ ev) (hK1 : ∀ q o w, lwS t 242 0 [] = (q, none) → q ≤ t.length → K none (msa (md (gv (lbS σ tx b t.length) o) w) q q)) (hK2 : ∀ q L, lwS t 242 0 [] = (q, some L) → q ≤ t.length → K none (msa (md (gv (lbS σ tx b t.length) (L.foldl (nxC ev) none)) (dw 6)) q (-1))) : Call l D cA ad (d + 31) mX12_goThrough [.ref 111, .ref tx, .int (iI b), .int (iI t.length)] σ K := by
  have ht1 := ht.1
  refine call_go (by decide) (Nat.le_of_ble_eq_true rfl) (show Go l D cA ad (d + 31) mX12_goThrough 0 [.ref 111, .ref tx, .int (iI b), .int (iI t.length)] [] σ K from ?_)
  refine go_aload_n dX12_goThrough_0 rfl ?_
  refine go_aload_n dX12_goThrough_1 rfl ?_
  refine go_iload_n dX12_goThrough_2 rfl ?_
  refine go_iload_n dX12_goThrough_3 rfl ?_
  refine go_callV (as := [_, _, _]) wX12_207 dX12_goThrough_4 rfl rfl rfl rfl (Nat.le_of_ble_eq_true rfl) (ct_X12_starts ?_)
  refine go_aload_n dX12_goThrough_7 rfl ?_
  refine go_bipush (v := iI 121) dX12_goThrough_8 (by decide) ?_
  refine go_putI fX12_201 rfl dX12_goThrough_10 rfl rfl rfl ?_
  rw [msa_put (by decide) (by decide)]
  refine go_aload_n dX12_goThrough_13 rfl ?_
  refine go_iconst (v := iI 0) dX12_goThrough_14 (by decide) ?_
  refine go_putI fX12_131 rfl dX12_goThrough_15 rfl rfl rfl ?_
  rw [msa_put (by decide) (by decide)]
  refine go_aload_n dX12_goThrough_18 rfl ?_
  refine go_iconst (v := iI 0) dX12_goThrough_19 (by decide) ?_
  refine go_putI fX12_197 rfl dX12_goThrough_20 rfl rfl rfl ?_
  rw [msa_put (by decide) (by decide)]
  refine go_aload_n dX12_goThrough_23 rfl ?_
  refine go_iconst (v := iI 0) dX12_goThrough_24 (by decide) ?_
  refine go_putI fX12_204 rfl dX12_goThrough_25 rfl rfl rfl ?_
  rw [msa_put (by decide) (by decide)]
  rw [show ∀ X : AS, sI X 111 (upd (X.1 111) 12 (iI 0)) = md X (iI 0) from fun X => rfl, md_put2 (by decide), md_put2 (by decide), gv_set0, show sI (stT σ tx b t.length) 111 (upd ((stT σ tx b t.length).1 111) 13 (iI 121)) = lbS σ tx b t.length from rfl, show (iI 0) = dw 6 from rfl]
  have hR2 : RO (lbS σ tx b t.length) := RO_stT (tx := tx) (b := b) (n := t.length) hR
  have hX2 : TX (lbS σ tx b t.length) tx b t := TX_fd hX (by decide) (by decide)
  have hE2 : EV (lbS σ tx b t.length) ev := fun j hj => by unfold lbS; rw [sI_ne _ _ _ _ (by decide), stT_I (by decide)]; exact hE j hj
  have hlb2 : (lbS σ tx b t.length).1 111 13 = iI 121 := by unfold lbS; rw [sI_same, upd_same]
  refine go_aload_n dX12_goThrough_28 rfl ?_
  refine go_callV (as := []) wX12_211 dX12_goThrough_29 rfl rfl rfl rfl (Nat.le_of_ble_eq_true rfl) (cl_M ht hR2 hX2 hE2 hlb2 (Nat.zero_le _) (fun q2 w2 hq2 hle2 => ?_) (fun q2 c2 hq2 hle2 => ?_))
  · refine go_aload_n dX12_goThrough_32 rfl ?_
    refine go_getI fX12_128 dX12_goThrough_33 rfl ?_
    refine go_iconst (v := iI (-1)) dX12_goThrough_36 (by decide) ?_
    refine go_icmp_ne (tgt := 66) dX12_goThrough_37 (by decide) (fun h37 => ?_) (fun h37 => ?_)
    · refine go_aload_n dX12_goThrough_66 rfl ?_
      refine go_getI fX12_128 dX12_goThrough_67 rfl ?_
      refine go_iconst (v := iI (-1)) dX12_goThrough_70 (by decide) ?_
      refine go_icmp_ne (tgt := 87) dX12_goThrough_71 (by decide) (fun h71 => ?_) (fun h71 => ?_)
      · refine go_vret rfl dX12_goThrough_87 ?_
        exact hK1 _ _ _ (lwS_f hq2) hle2
      · exfalso
        rw [msa_ft, iI_eq (by omega)] at h71
        omega
    · exfalso
      rw [msa_ft, iI_eq (by omega)] at h37
      omega
  · have hgc := clC_gd (t := t) (Nat.zero_le _)
    rw [hq2] at hgc
    have hgd2 := (hgc.2.2 c2 rfl).1
    dsimp only at hgd2
    exact it_goT ht hR2 hX2 hE2 hlb2 hK1 hK2 241 0 q2 [] c2 (by omega) (Nat.zero_le _) hle2 hq2 rfl
