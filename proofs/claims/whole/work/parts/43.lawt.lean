theorem lp_mu {l : Launch} {D : va_G} {cA ad : Nat → Nat} {d : Nat} {σ : AS} {K : Option Value → AS → Prop} {t : List Nat} {e : Nat} {cd : List Int} {S0 : RS} (ht : TOK t) (hu : PrsC l D cA ad t (d + 2) mX4_readUnit [.int (iI ((6 - e : Nat) : Int)), .int (iI 0)] (unE t e)) (hK1 : ∀ q τ', Fr 44 45 σ τ' → S0 = (q, none) → K (some (.int (iI 0))) (atc τ' q)) (hK2 : ∀ q c τ', Fr 44 45 σ τ' → S0 = (q, some c) → LawC τ' (cd ++ c.1) → K (some (.int (iI 1))) (atc τ' q)) : ∀ (n a k : Nat) (c : CV) (τ : AS), t.length - a < n → k < a → a ≤ t.length → RO τ → TC τ t → Fr 44 45 σ τ → LawC τ (cd ++ c.1) → (cd ++ c.1).length < a → S0 = lpS t (unE t e) 38 38 (-19) (-19) n a c → Go l D cA ad (d + 3) mX4_readMoreUnits 2 [.ref 43, .int (iI ((6 - e : Nat) : Int)), .int (iI k)] [] (atc τ a) K := by
  have ht1 := ht.1
  intro n
  induction n with
  | zero => intro a k c τ h; omega
  | succ n ih =>
  intro a k c τ hn hka ha hR hT hfr hL hcl hres
  have hsk := sk_le ha
  have hsg := sk_ge t a
  refine go_iload_n dX4_readMoreUnits_2 rfl ?_
  refine go_sipush (v := iI 240) dX4_readMoreUnits_3 (by decide) ?_
  refine go_icmp_ge (tgt := 47) dX4_readMoreUnits_6 (by decide) (fun h6 => ?_) (fun h6 => ?_)
  · exfalso
    rw [iI_le (by omega)] at h6
    omega
  · refine go_aload_n dX4_readMoreUnits_9 rfl ?_
    refine go_getR fX4_18 dX4_readMoreUnits_10 rfl (hR _ _ _ rfl) ?_
    refine go_bipush (v := iI 38) dX4_readMoreUnits_13 (by decide) ?_
    refine go_callV (as := [_]) wX4_39 dX4_readMoreUnits_15 rfl rfl rfl rfl (Nat.le_of_ble_eq_true rfl) (ct_X8_take (c := 38) ht hR hT ha (by decide) (fun hne => ?_) (fun heq => ?_))
    · refine go_if_eq (tgt := 47) dX4_readMoreUnits_18 (by decide) (fun h18 => ?_) (fun h18 => ?_)
      · refine go_iconst (v := iI 1) dX4_readMoreUnits_47 (by decide) ?_
        refine go_iret rfl rfl dX4_readMoreUnits_48 ?_
        exact hK2 _ _ _ hfr (hres.trans (lpS_5 hne hne)) hL
      · exact absurd h18 (by decide)
    · have hp1 := sk_lt_of (t := t) (a := a) heq (by decide)
      refine go_if_eq (tgt := 47) dX4_readMoreUnits_18 (by decide) (fun h18 => ?_) (fun h18 => ?_)
      · exact absurd h18 (by decide)
      · refine go_aload_n dX4_readMoreUnits_21 rfl ?_
        refine go_iload_n dX4_readMoreUnits_22 rfl ?_
        refine go_iconst (v := iI 0) dX4_readMoreUnits_23 (by decide) ?_
        refine go_callV (as := [_, _]) wX4_53 dX4_readMoreUnits_24 rfl rfl rfl rfl (Nat.le_of_ble_eq_true rfl) (hu τ _ (sk t a + 1) (cd ++ c.1) hR hT hp1 hL (by omega) (fun q τ' fr hq => ?_) (fun q x τ' fr hq hL' => ?_))
        · refine go_if_ne (tgt := 32) dX4_readMoreUnits_27 (by decide) (fun h27 => ?_) (fun h27 => ?_)
          · exact absurd h27 (by decide)
          · refine go_iconst (v := iI 0) dX4_readMoreUnits_30 (by decide) ?_
            refine go_iret rfl rfl dX4_readMoreUnits_31 ?_
            exact hK1 _ _ (hfr.tr fr) (hres.trans (lpS_1 heq hq))
        · have hR' : RO τ' := fr.RO hR
          have hT' : TC τ' t := fr.TC hT (by decide)
          have hgi := unE_gd (t := t) e (sk t a + 1) hp1
          rw [hq] at hgi
          have hg2 := hgi.2.2 x rfl
          dsimp only at hgi hg2
          refine go_if_ne (tgt := 32) dX4_readMoreUnits_27 (by decide) (fun h27 => ?_) (fun h27 => ?_)
          · refine go_aload_n dX4_readMoreUnits_32 rfl ?_
            refine go_getR fX4_12 dX4_readMoreUnits_33 rfl (hR' _ _ _ rfl) ?_
            refine go_bipush (v := iI (-19)) dX4_readMoreUnits_36 (by decide) ?_
            refine go_callV (as := [_]) wX4_49 dX4_readMoreUnits_38 rfl rfl rfl rfl (Nat.le_of_ble_eq_true rfl) (ct_X3_put hR' hL' (by simp only [List.length_append] at hcl ⊢; omega) (fun τ2 fr2 hL2 => ?_))
            refine go_iincI dX4_readMoreUnits_41 rfl (Nat.le_of_ble_eq_true rfl) rfl ?_
            refine go_goto (tgt := 2) dX4_readMoreUnits_44 (by decide) ?_
            simp only [List.set, iI_add]
            rw [cvB_code] at hL2
            exact ih q (k + 1) (cvB (-19) c x) τ2 (by omega) (by omega) hgi.1 (fr2.RO hR') (fr2.TC hT' (by decide)) ((hfr.tr fr).tr fr2) hL2 (by have := hcl; unfold cvB; simp only [List.length_append, List.length_cons, List.length_nil] at this ⊢; omega) (hres.trans (lpS_2 heq hq))
          · exact absurd h27 (by decide)
theorem mu_C {l : Launch} {D : va_G} {cA ad : Nat → Nat} {t : List Nat} {d e : Nat} (ht : TOK t) (hu : PrsC l D cA ad t (d + 2) mX4_readUnit [.int (iI ((6 - e : Nat) : Int)), .int (iI 0)] (unE t e)) : MorC l D cA ad t (d + 3) mX4_readMoreUnits (.int (iI ((6 - e : Nat) : Int))) (muS t (unE t e)) := by
  intro τ K a cd x hR hT ha hL hcd hK1 hK2
  have ht1 := ht.1
  refine call_go (by decide) (Nat.le_of_ble_eq_true rfl) (show Go l D cA ad (d + 3) mX4_readMoreUnits 0 [.ref 43, .int (iI ((6 - e : Nat) : Int)), .null] [] (atc τ a) K from ?_)
  refine go_iconst (v := iI 0) dX4_readMoreUnits_0 (by decide) ?_
  refine go_istore_n dX4_readMoreUnits_1 (Nat.le_of_ble_eq_true rfl) rfl ?_
  simp only [List.set]
  exact lp_mu ht hu hK1 hK2 242 a 0 x τ (by omega) (by omega) ha hR hT Fr.rf hL hcd rfl
theorem lp_mt {l : Launch} {D : va_G} {cA ad : Nat → Nat} {d : Nat} {σ : AS} {K : Option Value → AS → Prop} {t : List Nat} {e : Nat} {cd : List Int} {S0 : RS} (ht : TOK t) (hu : PrsC l D cA ad t (d + 3) mX4_readUnit [.int (iI ((6 - e : Nat) : Int)), .int (iI 0)] (unE t e)) (hm : MorC l D cA ad t (d + 3) mX4_readMoreUnits (.int (iI ((6 - e : Nat) : Int))) (muS t (unE t e))) (hK1 : ∀ q τ', Fr 44 45 σ τ' → S0 = (q, none) → K (some (.int (iI 0))) (atc τ' q)) (hK2 : ∀ q c τ', Fr 44 45 σ τ' → S0 = (q, some c) → LawC τ' (cd ++ c.1) → K (some (.int (iI 1))) (atc τ' q)) : ∀ (n a k : Nat) (c : CV) (τ : AS), t.length - a < n → k < a → a ≤ t.length → RO τ → TC τ t → Fr 44 45 σ τ → LawC τ (cd ++ c.1) → (cd ++ c.1).length < a → S0 = lpS t (paS t (unE t e)) 124 124 (-20) (-20) n a c → Go l D cA ad (d + 4) mX4_readMoreTruths 12 [.ref 43, .int (iI ((6 - e : Nat) : Int)), .int (iI k)] [] (atc τ a) K := by
  have ht1 := ht.1
  intro n
  induction n with
  | zero => intro a k c τ h; omega
  | succ n ih =>
  intro a k c τ hn hka ha hR hT hfr hL hcl hres
  have hsk := sk_le ha
  have hsg := sk_ge t a
  refine go_iload_n dX4_readMoreTruths_12 rfl ?_
  refine go_sipush (v := iI 240) dX4_readMoreTruths_13 (by decide) ?_
  refine go_icmp_ge (tgt := 65) dX4_readMoreTruths_16 (by decide) (fun h16 => ?_) (fun h16 => ?_)
  · exfalso
    rw [iI_le (by omega)] at h16
    omega
  · refine go_aload_n dX4_readMoreTruths_19 rfl ?_
    refine go_getR fX4_18 dX4_readMoreTruths_20 rfl (hR _ _ _ rfl) ?_
    refine go_bipush (v := iI 124) dX4_readMoreTruths_23 (by decide) ?_
    refine go_callV (as := [_]) wX4_39 dX4_readMoreTruths_25 rfl rfl rfl rfl (Nat.le_of_ble_eq_true rfl) (ct_X8_take (c := 124) ht hR hT ha (by decide) (fun hne => ?_) (fun heq => ?_))
    · refine go_if_eq (tgt := 65) dX4_readMoreTruths_28 (by decide) (fun h28 => ?_) (fun h28 => ?_)
      · refine go_iconst (v := iI 1) dX4_readMoreTruths_65 (by decide) ?_
        refine go_iret rfl rfl dX4_readMoreTruths_66 ?_
        exact hK2 _ _ _ hfr (hres.trans (lpS_5 hne hne)) hL
      · exact absurd h28 (by decide)
    · have hp1 := sk_lt_of (t := t) (a := a) heq (by decide)
      refine go_if_eq (tgt := 65) dX4_readMoreTruths_28 (by decide) (fun h28 => ?_) (fun h28 => ?_)
      · exact absurd h28 (by decide)
      · refine go_aload_n dX4_readMoreTruths_31 rfl ?_
        refine go_iload_n dX4_readMoreTruths_32 rfl ?_
        refine go_iconst (v := iI 0) dX4_readMoreTruths_33 (by decide) ?_
        refine go_callV (as := [_, _]) wX4_53 dX4_readMoreTruths_34 rfl rfl rfl rfl (Nat.le_of_ble_eq_true rfl) (hu τ _ (sk t a + 1) (cd ++ c.1) hR hT hp1 hL (by omega) (fun q τ' fr hq => ?_) (fun q x τ' fr hq hL' => ?_))
        · refine go_if_eq (tgt := 48) dX4_readMoreTruths_37 (by decide) (fun h37 => ?_) (fun h37 => ?_)
          · refine go_iconst (v := iI 0) dX4_readMoreTruths_48 (by decide) ?_
            refine go_iret rfl rfl dX4_readMoreTruths_49 ?_
            exact hK1 _ _ (hfr.tr fr) (hres.trans (lpS_1 heq (rnS_0 hq)))
          · exact absurd h37 (by decide)
        · have hR' : RO τ' := fr.RO hR
          have hT' : TC τ' t := fr.TC hT (by decide)
          have hgi := unE_gd (t := t) e (sk t a + 1) hp1
          rw [hq] at hgi
          have hg2 := hgi.2.2 x rfl
          dsimp only at hgi hg2
          refine go_if_eq (tgt := 48) dX4_readMoreTruths_37 (by decide) (fun h37 => ?_) (fun h37 => ?_)
          · exact absurd h37 (by decide)
          · refine go_aload_n dX4_readMoreTruths_40 rfl ?_
            refine go_iload_n dX4_readMoreTruths_41 rfl ?_
            refine go_callV (as := [_]) wX4_69 dX4_readMoreTruths_42 rfl rfl rfl rfl (Nat.le_of_ble_eq_true rfl) (hm τ' _ q (cd ++ c.1) x hR' hT' hgi.1 hL' (by simp only [List.length_append] at hcl ⊢; omega) (fun r τ2 fr2 hq2 => ?_) (fun r y τ2 fr2 hq2 hL2 => ?_))
            · have hpa : paS t (unE t e) (sk t a + 1) = (r, none) := (rnS_1 hq).trans hq2
              refine go_if_ne (tgt := 50) dX4_readMoreTruths_45 (by decide) (fun h45 => ?_) (fun h45 => ?_)
              · exact absurd h45 (by decide)
              · refine go_iconst (v := iI 0) dX4_readMoreTruths_48 (by decide) ?_
                refine go_iret rfl rfl dX4_readMoreTruths_49 ?_
                exact hK1 _ _ ((hfr.tr fr).tr fr2) (hres.trans (lpS_1 heq hpa))
            · have hR2 : RO τ2 := fr2.RO hR'
              have hT2 : TC τ2 t := fr2.TC hT' (by decide)
              have hpa : paS t (unE t e) (sk t a + 1) = (r, some y) := (rnS_1 hq).trans hq2
              have hgj := (rnS_gd (o1 := -19) (o2 := -19) (c1 := 38) (c2 := 38) (unE_gd (t := t) e) (by decide) (by decide)) (sk t a + 1) hp1
              unfold paS at hpa
              rw [hpa] at hgj
              have hg3 := hgj.2.2 y rfl
              dsimp only at hgj hg3
              refine go_if_ne (tgt := 50) dX4_readMoreTruths_45 (by decide) (fun h45 => ?_) (fun h45 => ?_)
              · refine go_aload_n dX4_readMoreTruths_50 rfl ?_
                refine go_getR fX4_12 dX4_readMoreTruths_51 rfl (hR2 _ _ _ rfl) ?_
                refine go_bipush (v := iI (-20)) dX4_readMoreTruths_54 (by decide) ?_
                refine go_callV (as := [_]) wX4_49 dX4_readMoreTruths_56 rfl rfl rfl rfl (Nat.le_of_ble_eq_true rfl) (ct_X3_put hR2 hL2 (by simp only [List.length_append] at hcl ⊢; omega) (fun τ3 fr3 hL3 => ?_))
                refine go_iincI dX4_readMoreTruths_59 rfl (Nat.le_of_ble_eq_true rfl) rfl ?_
                refine go_goto (tgt := 12) dX4_readMoreTruths_62 (by decide) ?_
                simp only [List.set, iI_add]
                rw [cvB_code] at hL3
                exact ih r (k + 1) (cvB (-20) c y) τ3 (by omega) (by omega) hgj.1 (fr3.RO hR2) (fr3.TC hT2 (by decide)) (((hfr.tr fr).tr fr2).tr fr3) hL3 (by have := hcl; unfold cvB; simp only [List.length_append, List.length_cons, List.length_nil] at this ⊢; omega) (hres.trans (lpS_2 heq hpa))
              · exact absurd h45 (by decide)
theorem mt_C {l : Launch} {D : va_G} {cA ad : Nat → Nat} {t : List Nat} {d e : Nat} (ht : TOK t) (hu : PrsC l D cA ad t (d + 3) mX4_readUnit [.int (iI ((6 - e : Nat) : Int)), .int (iI 0)] (unE t e)) (hm : MorC l D cA ad t (d + 3) mX4_readMoreUnits (.int (iI ((6 - e : Nat) : Int))) (muS t (unE t e))) : MorC l D cA ad t (d + 4) mX4_readMoreTruths (.int (iI ((6 - e : Nat) : Int))) (mtS t (unE t e)) := by
  intro τ K a cd x hR hT ha hL hcd hK1 hK2
  have ht1 := ht.1
  refine call_go (by decide) (Nat.le_of_ble_eq_true rfl) (show Go l D cA ad (d + 4) mX4_readMoreTruths 0 [.ref 43, .int (iI ((6 - e : Nat) : Int)), .null] [] (atc τ a) K from ?_)
  refine go_aload_n dX4_readMoreTruths_0 rfl ?_
  refine go_iload_n dX4_readMoreTruths_1 rfl ?_
  refine go_callV (as := [_]) wX4_69 dX4_readMoreTruths_2 rfl rfl rfl rfl (Nat.le_of_ble_eq_true rfl) (hm τ _ a cd x hR hT ha hL hcd (fun q τ' fr hq => ?_) (fun q y τ' fr hq hL' => ?_))
  · refine go_if_ne (tgt := 10) dX4_readMoreTruths_5 (by decide) (fun h5 => ?_) (fun h5 => ?_)
    · exact absurd h5 (by decide)
    · refine go_iconst (v := iI 0) dX4_readMoreTruths_8 (by decide) ?_
      refine go_iret rfl rfl dX4_readMoreTruths_9 ?_
      exact hK1 _ _ fr (by unfold mtS; rw [hq])
  · have hgl := lpS_gd (o1 := -19) (o2 := -19) (c1 := 38) (c2 := 38) (unE_gd (t := t) e) (by decide) (by decide) 242 a x ha
    have hq3 := hq
    unfold muS at hq3
    rw [hq3] at hgl
    have hg2 := hgl.2.2 y rfl
    dsimp only at hgl hg2
    refine go_if_ne (tgt := 10) dX4_readMoreTruths_5 (by decide) (fun h5 => ?_) (fun h5 => ?_)
    · refine go_iconst (v := iI 0) dX4_readMoreTruths_10 (by decide) ?_
      refine go_istore_n dX4_readMoreTruths_11 (Nat.le_of_ble_eq_true rfl) rfl ?_
      simp only [List.set]
      exact lp_mt ht hu hm hK1 hK2 242 q 0 y τ' (by omega) (by omega) hgl.1 (fr.RO hR) (fr.TC hT (by decide)) fr hL' (by simp only [List.length_append] at hcd ⊢; omega) (by unfold mtS; rw [hq])
    · exact absurd h5 (by decide)
theorem unitC {l : Launch} {D : va_G} {cA ad : Nat → Nat} {t : List Nat} (ht : TOK t) : ∀ (e d : Nat), e ≤ 6 → PrsC l D cA ad t (d + (4 * e + 8)) mX4_readUnit [.int (iI ((6 - e : Nat) : Int)), .int (iI 0)] (unE t e)
  | 0, d, _ => un_C (d := d + 3) ht (by decide) (sumC ht 0 d (by decide)) (fun e' h => by omega)
  | e + 1, d, he => by
    rw [show d + (4 * (e + 1) + 8) = (d + 4 * e + 7) + 5 by omega]
    refine un_C ht he ?_ (fun e' h c hc => ?_)
    · have := sumC (l := l) (D := D) (cA := cA) (ad := ad) ht (e + 1) (d + e + 1) he
      rw [show d + e + 1 + (3 * (e + 1) + 7) = d + 4 * e + 7 + 4 by omega] at this
      exact this
    · obtain rfl : e = e' := by omega
      have u0 := unitC (l := l) (D := D) (cA := cA) (ad := ad) ht e d (by omega)
      have u1 := unitC (l := l) (D := D) (cA := cA) (ad := ad) ht e (d + 1) (by omega)
      have u2 := unitC (l := l) (D := D) (cA := cA) (ad := ad) ht e (d + 2) (by omega)
      rw [show d + (4 * e + 8) = (d + 4 * e + 6) + 2 by omega] at u0
      rw [show d + 1 + (4 * e + 8) = (d + 4 * e + 6) + 3 by omega] at u1
      rw [show d + 2 + (4 * e + 8) = (d + 4 * e + 7) + 3 by omega] at u2
      exact ns_C (d := d + 4 * e + 7) ht hc u2 (mt_C (d := d + 4 * e + 6) ht u1 (mu_C ht u0))
theorem truthC {l : Launch} {D : va_G} {cA ad : Nat → Nat} {t : List Nat} (ht : TOK t) (e d : Nat) (he : e ≤ 6) : MorC l D cA ad t (d + (4 * e + 10)) mX4_readMoreTruths (.int (iI ((6 - e : Nat) : Int))) (mtS t (unE t e)) := by
  have u0 := unitC (l := l) (D := D) (cA := cA) (ad := ad) ht e d he
  have u1 := unitC (l := l) (D := D) (cA := cA) (ad := ad) ht e (d + 1) he
  rw [show d + (4 * e + 8) = (d + 4 * e + 6) + 2 by omega] at u0
  rw [show d + 1 + (4 * e + 8) = (d + 4 * e + 6) + 3 by omega] at u1
  rw [show d + (4 * e + 10) = (d + 4 * e + 6) + 4 by omega]
  exact mt_C (d := d + 4 * e + 6) ht u1 (mu_C ht u0)
