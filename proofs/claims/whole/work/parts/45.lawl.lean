theorem lwS_f {t : List Nat} {n a q : Nat} {L : List CL} (h : clC t a = (q, none)) : lwS t (n + 1) a L = (q, none) := by unfold lwS; rw [h]
theorem lwS_e {t : List Nat} {n a q : Nat} {L : List CL} {x : CL} (h : clC t a = (q, some x)) (h1 : ch t (sk t q) = -1) : lwS t (n + 1) a L = (sk t q, some (L ++ [x])) := by unfold lwS; rw [h]; dsimp only; rw [if_pos h1]
theorem lwS_n {t : List Nat} {n a q : Nat} {L : List CL} {x : CL} (h : clC t a = (q, some x)) (h1 : ch t (sk t q) = 59) : lwS t (n + 1) a L = lwS t n (sk t q + 1) (L ++ [x]) := by
  show (match clC t a with | (q, none) => _ | (q, some x) => _) = _
  rw [h]; dsimp only; rw [if_neg (by omega), if_pos h1]
theorem lwS_x {t : List Nat} {n a q : Nat} {L : List CL} {x : CL} (h : clC t a = (q, some x)) (h1 : ch t (sk t q) ≠ -1) (h2 : ch t (sk t q) ≠ 59) : lwS t (n + 1) a L = (sk t q, none) := by unfold lwS; rw [h]; dsimp only; rw [if_neg h1, if_neg h2]
theorem mtS_gd {t : List Nat} {q : Nat} {u : CV} (hq : q ≤ t.length) : (mtS t (unE t 6) q u).1 ≤ t.length ∧ q ≤ (mtS t (unE t 6) q u).1 ∧ ∀ x, (mtS t (unE t 6) q u).2 = some x → x.1.length + q ≤ (mtS t (unE t 6) q u).1 + u.1.length := by
  have g1 := lpS_gd (o1 := -19) (o2 := -19) (c1 := 38) (c2 := 38) (unE_gd (t := t) 6) (by decide) (by decide) 242 q u hq
  unfold mtS muS
  cases e1 : lpS t (unE t 6) 38 38 (-19) (-19) 242 q u with
  | mk q1 o1 =>
    rw [e1] at g1
    cases o1 with
    | none => exact ⟨g1.1, g1.2.1, fun x h => by cases h⟩
    | some y =>
      have g2 := lpS_gd (o1 := -20) (o2 := -20) (c1 := 124) (c2 := 124) (rnS_gd (o1 := -19) (o2 := -19) (c1 := 38) (c2 := 38) (unE_gd (t := t) 6) (by decide) (by decide)) (by decide) (by decide) 242 q1 y g1.1
      have g3 := g1.2.2 y rfl
      dsimp only at g1 g3 ⊢
      unfold paS
      exact ⟨g2.1, by omega, fun x h => by have := g2.2.2 x h; omega⟩
theorem anS_gd {t : List Nat} {q : Nat} (hq : q ≤ t.length) : (anS t q).1 ≤ t.length ∧ q ≤ (anS t q).1 ∧ ∀ y, (anS t q).2 = some y → y.1.length + q + 1 ≤ (anS t q).1 := by
  have h0 := sk_le hq
  have h1 := sk_ge t q
  unfold anS
  by_cases k : ch t (sk t q) = 63
  · rw [if_pos k]
    have hl := sk_lt_of k (by decide)
    have := smE_gd (t := t) 6 (sk t q + 1) hl
    exact ⟨this.1, by omega, fun y hy => by have := (this.2.2 y hy).2; omega⟩
  · rw [if_neg k]; exact ⟨h0, h1, fun y h => by cases h⟩
theorem tlS_gd {t : List Nat} {q : Nat} {u : CV} (hq : q ≤ t.length) : (tlS t q u).1 ≤ t.length ∧ q ≤ (tlS t q u).1 ∧ ∀ c, (tlS t q u).2 = some c → ∃ x, c.1 = some x ∧ x.1.length + c.2.1.length + q + 1 ≤ (tlS t q u).1 + u.1.length := by
  have g1 := mtS_gd (u := u) hq
  unfold tlS
  cases e1 : mtS t (unE t 6) q u with
  | mk r o1 =>
    rw [e1] at g1
    cases o1 with
    | none => exact ⟨g1.1, g1.2.1, fun c h => by cases h⟩
    | some x =>
      have g2 := anS_gd g1.1
      have g3 := g1.2.2 x rfl
      dsimp only at g1 g2 g3 ⊢
      cases e2 : anS t r with
      | mk s o2 =>
        rw [e2] at g2
        cases o2 with
        | none => exact ⟨g2.1, by dsimp only at g2 ⊢; omega, fun c h => by cases h⟩
        | some y =>
          have g4 := g2.2.2 y rfl
          dsimp only at g2 g4 ⊢
          exact ⟨g2.1, by omega, fun c h => by cases h; exact ⟨x, rfl, by dsimp only; omega⟩⟩
theorem clC_gd {t : List Nat} {a : Nat} (ha : a ≤ t.length) : (clC t a).1 ≤ t.length ∧ a ≤ (clC t a).1 ∧ ∀ c, (clC t a).2 = some c → a < (clC t a).1 ∧ ∀ cd : List Int, cd.length ≤ a → (codeCl cd c).length ≤ (clC t a).1 := by
  have h0 := sk_le ha
  have h1 := sk_ge t a
  unfold clC
  by_cases k1 : ch t (sk t a) = 121
  · rw [if_pos k1]
    have hl := sk_lt_of k1 (by decide)
    have h2 := sk_le hl
    have h3 := sk_ge t (sk t a + 1)
    by_cases k2 : ch t (sk t (sk t a + 1)) = 58
    · rw [if_pos k2]
      have hl2 := sk_lt_of k2 (by decide)
      generalize hb : sk t (sk t a + 1) + 1 = b at hl2 ⊢
      unfold bdS
      by_cases k3 : ch t (sk t b) = 33 ∨ ch t (sk t b) = 40
      · rw [if_pos k3]
        have g1 := unE_gd (t := t) 6 b hl2
        cases e1 : unE t 6 b with
        | mk q o1 =>
          rw [e1] at g1
          cases o1 with
          | none => exact ⟨g1.1, by dsimp only at g1 ⊢; omega, fun c h => by cases h⟩
          | some u =>
            have g2 := tlS_gd (u := u) g1.1
            have g3 := g1.2.2 u rfl
            dsimp only at g1 g2 g3 ⊢
            refine ⟨g2.1, by omega, fun c h => ⟨by omega, fun cd hcd => ?_⟩⟩
            obtain ⟨x, hx, hx2⟩ := g2.2.2 c h
            unfold codeCl
            rw [hx]
            simp only [List.length_append, List.length_cons, List.length_nil]
            omega
      · rw [if_neg k3]
        have g1 := smE_gd (t := t) 6 b hl2
        cases e1 : smE t 6 b with
        | mk q o1 =>
          rw [e1] at g1
          cases o1 with
          | none => exact ⟨g1.1, by dsimp only at g1 ⊢; omega, fun c h => by cases h⟩
          | some x =>
            have g3 := g1.2.2 x rfl
            have h5 := sk_le g1.1
            have h6 := sk_ge t q
            dsimp only at g1 g3 h5 ⊢
            by_cases k4 : cmpO (ch t (sk t q)) = 0
            · rw [if_pos k4]
              refine ⟨h5, by dsimp only; omega, fun c h => ?_⟩
              cases h
              refine ⟨by dsimp only; omega, fun cd hcd => ?_⟩
              unfold codeCl
              simp only [List.length_append, List.length_cons, List.length_nil]
              omega
            · rw [if_neg k4]
              have g4 := cpS_gd (t := t) (e := 6) (x := x) g1.1
              cases e2 : cpS t 6 q x with
              | mk r o2 =>
                rw [e2] at g4
                cases o2 with
                | none => exact ⟨g4.1, by dsimp only at g4 ⊢; omega, fun c h => by cases h⟩
                | some u =>
                  have g2 := tlS_gd (u := u) g4.1
                  have g5 := g4.2.2 u rfl
                  dsimp only at g4 g2 g5 ⊢
                  refine ⟨g2.1, by omega, fun c h => ⟨by omega, fun cd hcd => ?_⟩⟩
                  obtain ⟨y, hx, hx2⟩ := g2.2.2 c h
                  unfold codeCl
                  rw [hx]
                  simp only [List.length_append, List.length_cons, List.length_nil]
                  omega
    · rw [if_neg k2]; exact ⟨h2, by dsimp only; omega, fun c h => by cases h⟩
  · rw [if_neg k1]; exact ⟨h0, h1, fun c h => by cases h⟩
theorem it_X4_readLaw {l : Launch} {D : va_G} {cA ad : Nat → Nat} {d : Nat} {σ : AS} {K : Option Value → AS → Prop} {t : List Nat} (ht : TOK t) (hK1 : ∀ q τ, Fr 44 45 σ τ → lwS t 242 0 [] = (q, none) → K (some (.int (iI 0))) (atc τ q)) (hK2 : ∀ q L τ, Fr 44 45 σ τ → lwS t 242 0 [] = (q, some L) → LawC τ (codeL L) → (codeL L).length ≤ 240 → K (some (.int (iI 1))) (atc τ q)) : ∀ (n a k : Nat) (L : List CL) (τ : AS), t.length - a < n → k ≤ a → a ≤ t.length → RO τ → TC τ t → Fr 44 45 σ τ → LawC τ (codeL L) → (codeL L).length ≤ a → lwS t 242 0 [] = lwS t n a L → Go l D cA ad (d + 36) mX4_readLaw 18 [.ref 43, .int (iI k)] [] (atc τ a) K := by
  have ht1 := ht.1
  intro n
  induction n with
  | zero => intro a k L τ h; omega
  | succ n ih =>
  intro a k L τ hn hka ha hR hT hfr hL hcd hres
  refine go_iload_n dX4_readLaw_18 rfl ?_
  refine go_sipush (v := iI 240) dX4_readLaw_19 (by decide) ?_
  refine go_icmp_gt (tgt := 67) dX4_readLaw_22 (by decide) (fun h22 => ?_) (fun h22 => ?_)
  · exfalso
    rw [iI_lt (by omega)] at h22
    omega
  · refine go_aload_n dX4_readLaw_25 rfl ?_
    refine go_callV (as := []) wX4_31 dX4_readLaw_26 rfl rfl rfl rfl (Nat.le_of_ble_eq_true rfl) (cl_C ht τ _ a (codeL L) hR hT ha hL hcd (fun q τ' fr hq => ?_) (fun q c τ' fr hq hL' => ?_))
    · refine go_if_ne (tgt := 34) dX4_readLaw_29 (by decide) (fun h29 => ?_) (fun h29 => ?_)
      · exact absurd h29 (by decide)
      · refine go_iconst (v := iI 0) dX4_readLaw_32 (by decide) ?_
        refine go_iret rfl rfl dX4_readLaw_33 ?_
        exact hK1 _ _ (hfr.tr fr) (hres.trans (lwS_f hq))
    · have hR' : RO τ' := fr.RO hR
      have hT' : TC τ' t := fr.TC hT (by decide)
      have hgi := clC_gd ha
      rw [hq] at hgi
      have hg2 := hgi.2.2 c rfl
      have hg3 := hg2.2 (codeL L) hcd
      dsimp only at hgi hg2 hg3
      rw [← codeL_push] at hL' hg3
      have hskq := sk_le hgi.1
      have hsgq := sk_ge t q
      have hchq := ch_lt ht (sk t q)
      have hfr' := hfr.tr fr
      refine go_if_ne (tgt := 34) dX4_readLaw_29 (by decide) (fun h29 => ?_) (fun h29 => ?_)
      · refine go_aload_n dX4_readLaw_34 rfl ?_
        refine go_getR fX4_18 dX4_readLaw_35 rfl (hR' _ _ _ rfl) ?_
        refine go_callV (as := []) wX4_35 dX4_readLaw_38 rfl rfl rfl rfl (Nat.le_of_ble_eq_true rfl) (ct_X8_look ht hR' hT' hgi.1 ?_)
        refine go_iconst (v := iI (-1)) dX4_readLaw_41 (by decide) ?_
        refine go_icmp_ne (tgt := 47) dX4_readLaw_42 (by decide) (fun h42 => ?_) (fun h42 => ?_)
        · rw [iI_eq (by omega)] at h42
          refine go_aload_n dX4_readLaw_47 rfl ?_
          refine go_getR fX4_18 dX4_readLaw_48 rfl (hR' _ _ _ rfl) ?_
          refine go_bipush (v := iI 59) dX4_readLaw_51 (by decide) ?_
          refine go_callV (as := [_]) wX4_39 dX4_readLaw_53 rfl rfl rfl rfl (Nat.le_of_ble_eq_true rfl) (ct_X8_take (c := 59) ht hR' hT' hskq (by decide) (fun hne => ?_) (fun heq => ?_))
          · refine go_if_ne (tgt := 61) dX4_readLaw_56 (by decide) (fun h56 => ?_) (fun h56 => ?_)
            · exact absurd h56 (by decide)
            · refine go_iconst (v := iI 0) dX4_readLaw_59 (by decide) ?_
              refine go_iret rfl rfl dX4_readLaw_60 ?_
              rw [sk_sk] at hne ⊢
              exact hK1 _ _ hfr' (hres.trans (lwS_x hq h42 hne))
          · refine go_if_ne (tgt := 61) dX4_readLaw_56 (by decide) (fun h56 => ?_) (fun h56 => ?_)
            · refine go_iincI dX4_readLaw_61 rfl (Nat.le_of_ble_eq_true rfl) rfl ?_
              refine go_goto (tgt := 18) dX4_readLaw_64 (by decide) ?_
              simp only [List.set, iI_add]
              rw [sk_sk] at heq ⊢
              exact ih (sk t q + 1) (k + 1) (L ++ [c]) τ' (by omega) (by omega) (lt_of_ch heq (by decide)) hR' hT' hfr' hL' (by omega) (hres.trans (lwS_n hq heq))
            · exact absurd h56 (by decide)
        · rw [iI_eq (by omega)] at h42
          refine go_iconst (v := iI 1) dX4_readLaw_45 (by decide) ?_
          refine go_iret rfl rfl dX4_readLaw_46 ?_
          exact hK2 _ _ _ hfr' (hres.trans (lwS_e hq h42)) hL' (by omega)
      · exact absurd h29 (by decide)
theorem ct_X4_readLaw {l : Launch} {D : va_G} {cA ad : Nat → Nat} {d : Nat} {σ : AS} {K : Option Value → AS → Prop} {t : List Nat} (ht : TOK t) (hR : RO σ) (hT : TC σ t) (hK1 : ∀ q τ, Fr 44 45 σ τ → lwS t 242 0 [] = (q, none) → K (some (.int (iI 0))) (atc τ q)) (hK2 : ∀ q L τ, Fr 44 45 σ τ → lwS t 242 0 [] = (q, some L) → LawC τ (codeL L) → (codeL L).length ≤ 240 → K (some (.int (iI 1))) (atc τ q)) : Call l D cA ad (d + 36) mX4_readLaw [.ref 43] σ K := by
  have ht1 := ht.1
  refine call_go (by decide) (Nat.le_of_ble_eq_true rfl) (show Go l D cA ad (d + 36) mX4_readLaw 0 [.ref 43, .null] [] σ K from ?_)
  refine go_aload_n dX4_readLaw_0 rfl ?_
  refine go_getR fX4_18 dX4_readLaw_1 rfl (hR _ _ _ rfl) ?_
  refine go_iconst (v := iI 0) dX4_readLaw_4 (by decide) ?_
  refine go_putI fX4_22 rfl dX4_readLaw_5 rfl rfl rfl ?_
  rw [show sI σ 1 (upd (σ.1 1) 2 (iI 0)) = atc σ 0 from rfl]
  refine go_aload_n dX4_readLaw_8 rfl ?_
  refine go_getR fX4_12 dX4_readLaw_9 rfl (hR _ _ _ rfl) ?_
  refine go_iconst (v := iI 0) dX4_readLaw_12 (by decide) ?_
  refine go_putI fX4_28 rfl dX4_readLaw_13 rfl rfl rfl ?_
  rw [atc_fd (by decide)]
  refine go_iconst (v := iI 0) dX4_readLaw_16 (by decide) ?_
  refine go_istore_n dX4_readLaw_17 (Nat.le_of_ble_eq_true rfl) rfl ?_
  simp only [List.set]
  exact it_X4_readLaw ht hK1 hK2 242 0 0 [] _ (by omega) (by omega) (by omega) hR (TC_sI hT (by decide) (by decide)) (Fr.rf.sI (by decide) (by decide)) ⟨by rw [sI_same, upd_same]; rfl, fun i x h => by unfold codeL at h; simp at h⟩ (by decide) rfl

