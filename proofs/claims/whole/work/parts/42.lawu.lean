theorem atS_sk {t : List Nat} {rec : Option (Nat → RS)} (a : Nat) : atS t rec (sk t a) = atS t rec a := by unfold atS; rw [sk_sk]
theorem rnS_sk {t : List Nat} {item : Nat → RS} {c1 c2 o1 o2 : Int} {a : Nat} (h : item (sk t a) = item a) : rnS t item c1 c2 o1 o2 (sk t a) = rnS t item c1 c2 o1 o2 a := by unfold rnS; rw [h]
theorem smE_sk {t : List Nat} {e a : Nat} : smE t e (sk t a) = smE t e a := by rw [smE_eq]; exact rnS_sk (rnS_sk (atS_sk a))
theorem unS_n {t : List Nat} {e a : Nat} {rec : Option (Nat → RS)} (h1 : ch t (sk t a) ≠ 33) (h2 : ch t (sk t a) ≠ 40) : unS t e rec a = (match smE t e a with | (q, none) => (q, none) | (q, some x) => cpS t e q x) := by unfold unS; rw [if_neg h1, if_neg h2]; rfl
theorem unS_s0 {t : List Nat} {e a q : Nat} {rec : Option (Nat → RS)} (h1 : ch t (sk t a) ≠ 33) (h2 : ch t (sk t a) ≠ 40) (h : smE t e a = (q, none)) : unS t e rec a = (q, none) := by rw [unS_n h1 h2, h]
theorem unS_s1 {t : List Nat} {e a q : Nat} {x : CV} {rec : Option (Nat → RS)} (h1 : ch t (sk t a) ≠ 33) (h2 : ch t (sk t a) ≠ 40) (h : smE t e a = (q, some x)) : unS t e rec a = cpS t e q x := by rw [unS_n h1 h2, h]
theorem cpS_0 {t : List Nat} {e q : Nat} {x : CV} (h : cmpO (ch t (sk t q)) = 0) : cpS t e q x = (sk t q, none) := by unfold cpS; rw [if_pos h]
theorem cpS_1 {t : List Nat} {e q r : Nat} {x : CV} (h : cmpO (ch t (sk t q)) ≠ 0) (h2 : smE t e (sk t q + 1) = (r, none)) : cpS t e q x = (r, none) := by unfold cpS; rw [if_neg h, h2]
theorem cpS_2 {t : List Nat} {e q r : Nat} {x y : CV} (h : cmpO (ch t (sk t q)) ≠ 0) (h2 : smE t e (sk t q + 1) = (r, some y)) : cpS t e q x = (r, some (cvB (cmpO (ch t (sk t q))) x y)) := by unfold cpS; rw [if_neg h, h2]
theorem cmpO_rng (c : Int) : -17 ≤ cmpO c ∧ cmpO c ≤ 0 := by unfold cmpO; split <;> (try split) <;> (try split) <;> omega
/-- more items behind one -/
def muS (t : List Nat) (unit : Nat → RS) (a : Nat) (x : CV) : RS := lpS t unit 38 38 (-19) (-19) 242 a x
def mtS (t : List Nat) (unit : Nat → RS) (a : Nat) (x : CV) : RS := match muS t unit a x with
  | (q, none) => (q, none)
  | (q, some y) => lpS t (paS t unit) 124 124 (-20) (-20) 242 q y
theorem cdS_eq {t : List Nat} {unit : Nat → RS} (a : Nat) : cdS t unit a = match unit a with | (q, none) => (q, none) | (q, some x) => mtS t unit q x := by
  unfold cdS
  show (match paS t unit a with | (q, none) => (q, none) | (q, some y) => _) = _
  unfold paS
  cases e : unit a with
  | mk q oc =>
    cases oc with
    | none => rw [rnS_0 e]
    | some x => rw [rnS_1 e]; rfl
def nsS (t : List Nat) (f : Nat → RS) (c : Int) (a : Nat) : RS := if c = 33 then match f (a + 1) with
    | (q, none) => (q, none)
    | (q, some c) => (q, some (notC c))
  else match cdS t f (a + 1) with
    | (q, none) => (q, none)
    | (q, some c) => if ch t (sk t q) = 41 then (sk t q + 1, some c) else (sk t q, none)
theorem unS_x {t : List Nat} {e a : Nat} {f : Nat → RS} (h : ch t (sk t a) = 33 ∨ ch t (sk t a) = 40) : unS t e (some f) a = nsS t f (ch t (sk t a)) (sk t a) := by
  unfold unS nsS
  rcases h with h | h
  · rw [if_pos h, if_pos h]; rfl
  · rw [if_neg (by omega), if_pos h, if_neg (by omega)]; rfl
theorem unS_0 {t : List Nat} {e a : Nat} (h : ch t (sk t a) = 33 ∨ ch t (sk t a) = 40) : unS t e none a = (sk t a, none) := by
  unfold unS
  rcases h with h | h
  · rw [if_pos h]
  · rw [if_neg (by omega), if_pos h]
def MorC (l : Launch) (D : va_G) (cA ad : Nat → Nat) (t : List Nat) (dd : Nat) (M : Mt) (dep : Value) (L : Nat → CV → RS) : Prop := ∀ (τ : AS) (K : Option Value → AS → Prop) (a : Nat) (cd : List Int) (x : CV), RO τ → TC τ t → a ≤ t.length → LawC τ (cd ++ x.1) → (cd ++ x.1).length < a → (∀ q τ', Fr 44 45 τ τ' → L a x = (q, none) → K (some (.int (iI 0))) (atc τ' q)) → (∀ q c τ', Fr 44 45 τ τ' → L a x = (q, some c) → LawC τ' (cd ++ c.1) → K (some (.int (iI 1))) (atc τ' q)) → Call l D cA ad dd M [.ref 43, dep] (atc τ a) K
theorem u61 {l : Launch} {D : va_G} {cA ad : Nat → Nat} {d : Nat} {τ : AS} {K : Option Value → AS → Prop} {t : List Nat} {e q : Nat} {cd : List Int} {x : CV} {v2 v3 : Int32} (ht : TOK t) (hsum : PrsC l D cA ad t (d + 2) mX4_readSum [.int (iI ((6 - e : Nat) : Int))] (smE t e)) (hR : RO τ) (hT : TC τ t) (hq : q ≤ t.length) (hL : LawC τ (cd ++ x.1)) (hcl : (cd ++ x.1).length < q) (hK1 : ∀ r τ', Fr 44 45 τ τ' → cpS t e q x = (r, none) → K (some (.int (iI 0))) (atc τ' r)) (hK2 : ∀ r c τ', Fr 44 45 τ τ' → cpS t e q x = (r, some c) → LawC τ' (cd ++ c.1) → K (some (.int (iI 1))) (atc τ' r)) : Go l D cA ad (d + 3) mX4_readUnit 61 [.ref 43, .int (iI ((6 - e : Nat) : Int)), .int v2, .int v3, .null] [] (atc τ q) K := by
  have ht1 := ht.1
  have hco := cmpO_rng (ch t (sk t q))
  have hsk := sk_le hq
  have hsg := sk_ge t q
  refine go_aload_n dX4_readUnit_61 rfl ?_
  refine go_callV (as := []) wX4_46 dX4_readUnit_62 rfl rfl rfl rfl (Nat.le_of_ble_eq_true rfl) (ct_X4_comparison ht hR hT hq ?_)
  refine go_istore dX4_readUnit_65 (Nat.le_of_ble_eq_true rfl) rfl ?_
  refine go_iload dX4_readUnit_67 rfl ?_
  refine go_if_ne (tgt := 74) dX4_readUnit_69 (by decide) (fun h69 => ?_) (fun h69 => ?_)
  · rw [iI_eq0 (by omega)] at h69
    refine go_aload_n dX4_readUnit_74 rfl ?_
    refine go_getR fX4_18 dX4_readUnit_75 rfl (hR _ _ _ rfl) ?_
    refine go_dup dX4_readUnit_78 rfl ?_
    refine go_getI fX4_22 dX4_readUnit_79 rfl ?_
    refine go_iconst (v := iI 1) dX4_readUnit_82 (by decide) ?_
    refine go_iadd dX4_readUnit_83 ?_
    refine go_putI fX4_22 rfl dX4_readUnit_84 rfl rfl rfl ?_
    rw [atc_inc]
    have hp1 := sk_lt_of (t := t) (a := q) (c := ch t (sk t q)) rfl (by have := cmp_gt h69; omega)
    refine go_aload_n dX4_readUnit_87 rfl ?_
    refine go_iload_n dX4_readUnit_88 rfl ?_
    refine go_callV (as := [_]) wX4_43 dX4_readUnit_89 rfl rfl rfl rfl (Nat.le_of_ble_eq_true rfl) (hsum τ _ (sk t q + 1) (cd ++ x.1) hR hT hp1 hL (by omega) (fun r τ' fr hq2 => ?_) (fun r y τ' fr hq2 hL' => ?_))
    · refine go_if_ne (tgt := 97) dX4_readUnit_92 (by decide) (fun h92 => ?_) (fun h92 => ?_)
      · exact absurd h92 (by decide)
      · refine go_iconst (v := iI 0) dX4_readUnit_95 (by decide) ?_
        refine go_iret rfl rfl dX4_readUnit_96 ?_
        exact hK1 _ _ fr (cpS_1 h69 hq2)
    · have hR' : RO τ' := fr.RO hR
      have hT' : TC τ' t := fr.TC hT (by decide)
      have hgi := smE_gd (t := t) e (sk t q + 1) hp1
      rw [hq2] at hgi
      have hg2 := hgi.2.2 y rfl
      dsimp only at hgi hg2
      refine go_if_ne (tgt := 97) dX4_readUnit_92 (by decide) (fun h92 => ?_) (fun h92 => ?_)
      · refine go_aload_n dX4_readUnit_97 rfl ?_
        refine go_getR fX4_12 dX4_readUnit_98 rfl (hR' _ _ _ rfl) ?_
        refine go_iload dX4_readUnit_101 rfl ?_
        refine go_callV (as := [_]) wX4_49 dX4_readUnit_103 rfl rfl rfl rfl (Nat.le_of_ble_eq_true rfl) (ct_X3_put hR' hL' (by simp only [List.length_append] at hcl ⊢; omega) (fun τ2 fr2 hL2 => ?_))
        refine go_iconst (v := iI 1) dX4_readUnit_106 (by decide) ?_
        refine go_iret rfl rfl dX4_readUnit_107 ?_
        rw [cvB_code] at hL2
        exact hK2 _ _ _ (fr.tr fr2) (cpS_2 h69 hq2) hL2
      · exact absurd h92 (by decide)
  · rw [iI_eq0 (by omega)] at h69
    refine go_iconst (v := iI 0) dX4_readUnit_72 (by decide) ?_
    refine go_iret rfl rfl dX4_readUnit_73 ?_
    exact hK1 _ _ Fr.rf (cpS_0 h69)
theorem ub_C {l : Launch} {D : va_G} {cA ad : Nat → Nat} {d : Nat} {t : List Nat} {e : Nat} (ht : TOK t) (hsum : PrsC l D cA ad t (d + 2) mX4_readSum [.int (iI ((6 - e : Nat) : Int))] (smE t e)) (τ : AS) (K : Option Value → AS → Prop) (a : Nat) (cd : List Int) (x : CV) (hR : RO τ) (hT : TC τ t) (ha : a ≤ t.length) (hL : LawC τ (cd ++ x.1)) (hcl : (cd ++ x.1).length < a) (hK1 : ∀ r τ', Fr 44 45 τ τ' → cpS t e a x = (r, none) → K (some (.int (iI 0))) (atc τ' r)) (hK2 : ∀ r c τ', Fr 44 45 τ τ' → cpS t e a x = (r, some c) → LawC τ' (cd ++ c.1) → K (some (.int (iI 1))) (atc τ' r)) : Call l D cA ad (d + 3) mX4_readUnit [.ref 43, .int (iI ((6 - e : Nat) : Int)), .int (iI 1)] (atc τ a) K := by
  refine call_go (by decide) (Nat.le_of_ble_eq_true rfl) (show Go l D cA ad (d + 3) mX4_readUnit 0 [.ref 43, .int (iI ((6 - e : Nat) : Int)), .int (iI 1), .null, .null] [] (atc τ a) K from ?_)
  refine go_aload_n dX4_readUnit_0 rfl ?_
  refine go_getR fX4_18 dX4_readUnit_1 rfl (hR _ _ _ rfl) ?_
  refine go_callV (as := []) wX4_35 dX4_readUnit_4 rfl rfl rfl rfl (Nat.le_of_ble_eq_true rfl) (ct_X8_look ht hR hT ha ?_)
  refine go_istore_n dX4_readUnit_7 (Nat.le_of_ble_eq_true rfl) rfl ?_
  refine go_iload_n dX4_readUnit_8 rfl ?_
  refine go_if_ne (tgt := 47) dX4_readUnit_9 (by decide) (fun h9 => ?_) (fun h9 => ?_)
  · refine go_iload_n dX4_readUnit_47 rfl ?_
    refine go_if_ne (tgt := 61) dX4_readUnit_48 (by decide) (fun h48 => ?_) (fun h48 => ?_)
    · simp only [List.set]
      have e9 : cpS t e (sk t a) x = cpS t e a x := by unfold cpS; rw [sk_sk]
      exact u61 ht hsum hR hT (sk_le ha) hL (by have := sk_ge t a; omega) (fun r τ' fr h => hK1 r τ' fr (e9 ▸ h)) (fun r c τ' fr h => hK2 r c τ' fr (e9 ▸ h))
    · exact absurd h48 (by decide)
  · exact absurd h9 (by decide)
theorem ns_C {l : Launch} {D : va_G} {cA ad : Nat → Nat} {d : Nat} {t : List Nat} {e : Nat} {c : Int} (ht : TOK t) (hc : c = 33 ∨ c = 40) (hu : PrsC l D cA ad t (d + 3) mX4_readUnit [.int (iI ((6 - e : Nat) : Int)), .int (iI 0)] (unE t e)) (hm : MorC l D cA ad t (d + 3) mX4_readMoreTruths (.int (iI ((6 - e : Nat) : Int))) (mtS t (unE t e))) (τ : AS) (K : Option Value → AS → Prop) (a : Nat) (cd : List Int) (hR : RO τ) (hT : TC τ t) (hp1 : a + 1 ≤ t.length) (hL : LawC τ cd) (hcd0 : cd.length < a) (hK1 : ∀ r τ', Fr 44 45 τ τ' → nsS t (unE t e) c a = (r, none) → K (some (.int (iI 0))) (atc τ' r)) (hK2 : ∀ r x τ', Fr 44 45 τ τ' → nsS t (unE t e) c a = (r, some x) → LawC τ' (cd ++ x.1) → K (some (.int (iI 1))) (atc τ' r)) : Call l D cA ad (d + 4) mX4_readNested [.ref 43, .int (iI ((6 - e : Nat) : Int)), .int (iI c)] (atc τ a) K := by
  have ht1 := ht.1
  refine call_go (by decide) (Nat.le_of_ble_eq_true rfl) (show Go l D cA ad (d + 4) mX4_readNested 0 [.ref 43, .int (iI ((6 - e : Nat) : Int)), .int (iI c)] [] (atc τ a) K from ?_)
  refine go_aload_n dX4_readNested_0 rfl ?_
  refine go_getR fX4_18 dX4_readNested_1 rfl (hR _ _ _ rfl) ?_
  refine go_dup dX4_readNested_4 rfl ?_
  refine go_getI fX4_22 dX4_readNested_5 rfl ?_
  refine go_iconst (v := iI 1) dX4_readNested_8 (by decide) ?_
  refine go_iadd dX4_readNested_9 ?_
  refine go_putI fX4_22 rfl dX4_readNested_10 rfl rfl rfl ?_
  rw [atc_inc]
  refine go_aload_n dX4_readNested_13 rfl ?_
  refine go_iload_n dX4_readNested_14 rfl ?_
  refine go_iconst (v := iI 0) dX4_readNested_15 (by decide) ?_
  refine go_callV (as := [_, _]) wX4_53 dX4_readNested_16 rfl rfl rfl rfl (Nat.le_of_ble_eq_true rfl) (hu τ _ (a + 1) cd hR hT hp1 hL (by omega) (fun q τ' fr hq => ?_) (fun q x τ' fr hq hL' => ?_))
  · refine go_if_ne (tgt := 24) dX4_readNested_19 (by decide) (fun h19 => ?_) (fun h19 => ?_)
    · exact absurd h19 (by decide)
    · refine go_iconst (v := iI 0) dX4_readNested_22 (by decide) ?_
      refine go_iret rfl rfl dX4_readNested_23 ?_
      refine hK1 _ _ fr ?_
      unfold nsS
      split
      · rw [hq]
      · rw [cdS_eq, hq]
  · have hR' : RO τ' := fr.RO hR
    have hT' : TC τ' t := fr.TC hT (by decide)
    have hgi := unE_gd (t := t) e (a + 1) hp1
    rw [hq] at hgi
    have hg2 := hgi.2.2 x rfl
    dsimp only at hgi hg2
    refine go_if_ne (tgt := 24) dX4_readNested_19 (by decide) (fun h19 => ?_) (fun h19 => ?_)
    · refine go_iload_n dX4_readNested_24 rfl ?_
      refine go_bipush (v := iI 40) dX4_readNested_25 (by decide) ?_
      refine go_icmp_ne (tgt := 56) dX4_readNested_27 (by decide) (fun h27 => ?_) (fun h27 => ?_)
      · rw [iI_eq (by omega)] at h27
        have hc3 : c = 33 := by omega
        refine go_aload_n dX4_readNested_56 rfl ?_
        refine go_getR fX4_12 dX4_readNested_57 rfl (hR' _ _ _ rfl) ?_
        refine go_bipush (v := iI (-18)) dX4_readNested_60 (by decide) ?_
        refine go_callV (as := [_]) wX4_49 dX4_readNested_62 rfl rfl rfl rfl (Nat.le_of_ble_eq_true rfl) (ct_X3_put hR' hL' (by simp only [List.length_append]; omega) (fun τ2 fr2 hL2 => ?_))
        refine go_iconst (v := iI 1) dX4_readNested_65 (by decide) ?_
        refine go_iret rfl rfl dX4_readNested_66 ?_
        refine hK2 _ (notC x) _ (fr.tr fr2) ?_ (by unfold notC; rw [← List.append_assoc]; exact hL2)
        unfold nsS
        rw [if_pos hc3, hq]
      · rw [iI_eq (by omega)] at h27
        refine go_aload_n dX4_readNested_30 rfl ?_
        refine go_iload_n dX4_readNested_31 rfl ?_
        refine go_callV (as := [_]) wX4_57 dX4_readNested_32 rfl rfl rfl rfl (Nat.le_of_ble_eq_true rfl) (hm τ' _ q cd x hR' hT' hgi.1 hL' (by simp only [List.length_append]; omega) (fun r τ2 fr2 hq2 => ?_) (fun r y τ2 fr2 hq2 hL2 => ?_))
        · refine go_if_eq (tgt := 54) dX4_readNested_35 (by decide) (fun h35 => ?_) (fun h35 => ?_)
          · refine go_iconst (v := iI 0) dX4_readNested_54 (by decide) ?_
            refine go_iret rfl rfl dX4_readNested_55 ?_
            refine hK1 _ _ (fr.tr fr2) ?_
            unfold nsS
            rw [if_neg (by omega), cdS_eq, hq]
            dsimp only
            rw [hq2]
          · exact absurd h35 (by decide)
        · have hR2 : RO τ2 := fr2.RO hR'
          have hT2 : TC τ2 t := fr2.TC hT' (by decide)
          have hcd : cdS t (unE t e) (a + 1) = (r, some y) := by rw [cdS_eq, hq]; exact hq2
          have hle : r ≤ t.length := by
            have := (rnS_gd (o1 := -20) (o2 := -20) (c1 := 124) (c2 := 124) (rnS_gd (o1 := -19) (o2 := -19) (c1 := 38) (c2 := 38) (unE_gd (t := t) e) (by decide) (by decide)) (by decide) (by decide)) (a + 1) hp1
            unfold cdS paS at hcd
            rw [hcd] at this
            exact this.1
          refine go_if_eq (tgt := 54) dX4_readNested_35 (by decide) (fun h35 => ?_) (fun h35 => ?_)
          · exact absurd h35 (by decide)
          · refine go_aload_n dX4_readNested_38 rfl ?_
            refine go_getR fX4_18 dX4_readNested_39 rfl (hR2 _ _ _ rfl) ?_
            refine go_bipush (v := iI 41) dX4_readNested_42 (by decide) ?_
            refine go_callV (as := [_]) wX4_39 dX4_readNested_44 rfl rfl rfl rfl (Nat.le_of_ble_eq_true rfl) (ct_X8_take (c := 41) ht hR2 hT2 hle (by decide) (fun hne => ?_) (fun heq => ?_))
            · refine go_if_eq (tgt := 54) dX4_readNested_47 (by decide) (fun h47 => ?_) (fun h47 => ?_)
              · refine go_iconst (v := iI 0) dX4_readNested_54 (by decide) ?_
                refine go_iret rfl rfl dX4_readNested_55 ?_
                refine hK1 _ _ (fr.tr fr2) ?_
                unfold nsS
                rw [if_neg (by omega), hcd]
                dsimp only
                rw [if_neg hne]
              · exact absurd h47 (by decide)
            · refine go_if_eq (tgt := 54) dX4_readNested_47 (by decide) (fun h47 => ?_) (fun h47 => ?_)
              · exact absurd h47 (by decide)
              · refine go_iconst (v := iI 1) dX4_readNested_50 (by decide) ?_
                refine go_goto (tgt := 55) dX4_readNested_51 (by decide) ?_
                refine go_iret rfl rfl dX4_readNested_55 ?_
                refine hK2 _ _ _ (fr.tr fr2) ?_ hL2
                unfold nsS
                rw [if_neg (by omega), hcd]
                dsimp only
                rw [if_pos heq]
    · exact absurd h19 (by decide)
theorem un_C {l : Launch} {D : va_G} {cA ad : Nat → Nat} {d : Nat} {t : List Nat} {e : Nat} (ht : TOK t) (he : e ≤ 6) (hsum : PrsC l D cA ad t (d + 4) mX4_readSum [.int (iI ((6 - e : Nat) : Int))] (smE t e)) (hns : ∀ e', e = e' + 1 → ∀ c, c = 33 ∨ c = 40 → ∀ (τ : AS) (K : Option Value → AS → Prop) (a : Nat) (cd : List Int), RO τ → TC τ t → a + 1 ≤ t.length → LawC τ cd → cd.length < a → (∀ r τ', Fr 44 45 τ τ' → nsS t (unE t e') c a = (r, none) → K (some (.int (iI 0))) (atc τ' r)) → (∀ r x τ', Fr 44 45 τ τ' → nsS t (unE t e') c a = (r, some x) → LawC τ' (cd ++ x.1) → K (some (.int (iI 1))) (atc τ' r)) → Call l D cA ad (d + 4) mX4_readNested [.ref 43, .int (iI ((6 - e' : Nat) : Int)), .int (iI c)] (atc τ a) K) : PrsC l D cA ad t (d + 5) mX4_readUnit [.int (iI ((6 - e : Nat) : Int)), .int (iI 0)] (unE t e) := by
  intro τ K a cd hR hT ha hL hcd hK1 hK2
  have ht1 := ht.1
  have hch := ch_lt ht (sk t a)
  have hsk := sk_le ha
  have hsg := sk_ge t a
  refine call_go (by decide) (Nat.le_of_ble_eq_true rfl) (show Go l D cA ad (d + 5) mX4_readUnit 0 [.ref 43, .int (iI ((6 - e : Nat) : Int)), .int (iI 0), .null, .null] [] (atc τ a) K from ?_)
  refine go_aload_n dX4_readUnit_0 rfl ?_
  refine go_getR fX4_18 dX4_readUnit_1 rfl (hR _ _ _ rfl) ?_
  refine go_callV (as := []) wX4_35 dX4_readUnit_4 rfl rfl rfl rfl (Nat.le_of_ble_eq_true rfl) (ct_X8_look ht hR hT ha ?_)
  refine go_istore_n dX4_readUnit_7 (Nat.le_of_ble_eq_true rfl) rfl ?_
  refine go_iload_n dX4_readUnit_8 rfl ?_
  refine go_if_ne (tgt := 47) dX4_readUnit_9 (by decide) (fun h9 => ?_) (fun h9 => ?_)
  · exact absurd h9 (by decide)
  · refine go_iload_n dX4_readUnit_12 rfl ?_
    refine go_bipush (v := iI 33) dX4_readUnit_13 (by decide) ?_
    refine go_icmp_eq (tgt := 24) dX4_readUnit_15 (by decide) (fun h15 => ?_) (fun h15 => ?_)
    · rw [iI_eq (by omega)] at h15
      have hcc : ch t (sk t a) = 33 ∨ ch t (sk t a) = 40 := Or.inl h15
      refine go_iload_n dX4_readUnit_24 rfl ?_
      refine go_bipush (v := iI 6) dX4_readUnit_25 (by decide) ?_
      refine go_icmp_ge (tgt := 45) dX4_readUnit_27 (by decide) (fun h27 => ?_) (fun h27 => ?_)
      · rw [iI_le (by omega)] at h27
        have he0 : e = 0 := by omega
        subst he0
        refine go_iconst (v := iI 0) dX4_readUnit_45 (by decide) ?_
        refine go_iret rfl rfl dX4_readUnit_46 ?_
        exact hK1 _ _ Fr.rf (unS_0 hcc)
      · rw [iI_le (by omega)] at h27
        obtain ⟨e', rfl⟩ : ∃ e', e = e' + 1 := ⟨e - 1, by omega⟩
        refine go_aload_n dX4_readUnit_30 rfl ?_
        refine go_iload_n dX4_readUnit_31 rfl ?_
        refine go_iconst (v := iI 1) dX4_readUnit_32 (by decide) ?_
        refine go_iadd dX4_readUnit_33 ?_
        have e6 : iI ((6 - (e' + 1) : Nat) : Int) + iI 1 = iI ((6 - e' : Nat) : Int) := by rw [iI_add]; congr 1; omega
        rw [e6]
        have hp1 := sk_lt_of (t := t) (a := a) (c := ch t (sk t a)) rfl (by omega)
        refine go_iload_n dX4_readUnit_34 rfl ?_
        refine go_callV (as := [_, _]) wX4_72 dX4_readUnit_35 rfl rfl rfl rfl (Nat.le_of_ble_eq_true rfl) (hns e' rfl (ch t (sk t a)) (by omega) τ _ (sk t a) cd hR hT hp1 hL (by omega) (fun q τ' fr hq => ?_) (fun q x τ' fr hq hL' => ?_))
        · refine go_if_eq (tgt := 45) dX4_readUnit_38 (by decide) (fun h38 => ?_) (fun h38 => ?_)
          · refine go_iconst (v := iI 0) dX4_readUnit_45 (by decide) ?_
            refine go_iret rfl rfl dX4_readUnit_46 ?_
            exact hK1 _ _ fr ((unS_x hcc).trans hq)
          · exact absurd h38 (by decide)
        · refine go_if_eq (tgt := 45) dX4_readUnit_38 (by decide) (fun h38 => ?_) (fun h38 => ?_)
          · exact absurd h38 (by decide)
          · refine go_iconst (v := iI 1) dX4_readUnit_41 (by decide) ?_
            refine go_goto (tgt := 46) dX4_readUnit_42 (by decide) ?_
            refine go_iret rfl rfl dX4_readUnit_46 ?_
            exact hK2 _ _ _ fr ((unS_x hcc).trans hq) hL'
    · rw [iI_eq (by omega)] at h15
      refine go_iload_n dX4_readUnit_18 rfl ?_
      refine go_bipush (v := iI 40) dX4_readUnit_19 (by decide) ?_
      refine go_icmp_ne (tgt := 47) dX4_readUnit_21 (by decide) (fun h21 => ?_) (fun h21 => ?_)
      · rw [iI_eq (by omega)] at h21
        refine go_iload_n dX4_readUnit_47 rfl ?_
        refine go_if_ne (tgt := 61) dX4_readUnit_48 (by decide) (fun h48 => ?_) (fun h48 => ?_)
        · exact absurd h48 (by decide)
        · refine go_aload_n dX4_readUnit_51 rfl ?_
          refine go_iload_n dX4_readUnit_52 rfl ?_
          refine go_callV (as := [_]) wX4_43 dX4_readUnit_53 rfl rfl rfl rfl (Nat.le_of_ble_eq_true rfl) (hsum τ _ (sk t a) cd hR hT hsk hL (by omega) (fun q τ' fr hq => ?_) (fun q x τ' fr hq hL' => ?_))
          · rw [smE_sk] at hq
            refine go_if_ne (tgt := 61) dX4_readUnit_56 (by decide) (fun h56 => ?_) (fun h56 => ?_)
            · exact absurd h56 (by decide)
            · refine go_iconst (v := iI 0) dX4_readUnit_59 (by decide) ?_
              refine go_iret rfl rfl dX4_readUnit_60 ?_
              exact hK1 _ _ fr (by rw [unE_eq]; exact unS_s0 h15 h21 hq)
          · rw [smE_sk] at hq
            have hR' : RO τ' := fr.RO hR
            have hT' : TC τ' t := fr.TC hT (by decide)
            have hgi := smE_gd (t := t) e a ha
            rw [hq] at hgi
            have hg2 := hgi.2.2 x rfl
            dsimp only at hgi hg2
            refine go_if_ne (tgt := 61) dX4_readUnit_56 (by decide) (fun h56 => ?_) (fun h56 => ?_)
            · simp only [List.set]
              have e9 : unE t e a = cpS t e q x := by rw [unE_eq]; exact unS_s1 h15 h21 hq
              exact u61 ht hsum hR' hT' hgi.1 hL' (by simp only [List.length_append]; omega) (fun r τ2 fr2 h => hK1 r τ2 (fr.tr fr2) (e9.trans h)) (fun r c τ2 fr2 h => hK2 r c τ2 (fr.tr fr2) (e9.trans h))
            · exact absurd h56 (by decide)
      · rw [iI_eq (by omega)] at h21
        have hcc : ch t (sk t a) = 33 ∨ ch t (sk t a) = 40 := Or.inr h21
        refine go_iload_n dX4_readUnit_24 rfl ?_
        refine go_bipush (v := iI 6) dX4_readUnit_25 (by decide) ?_
        refine go_icmp_ge (tgt := 45) dX4_readUnit_27 (by decide) (fun h27 => ?_) (fun h27 => ?_)
        · rw [iI_le (by omega)] at h27
          have he0 : e = 0 := by omega
          subst he0
          refine go_iconst (v := iI 0) dX4_readUnit_45 (by decide) ?_
          refine go_iret rfl rfl dX4_readUnit_46 ?_
          exact hK1 _ _ Fr.rf (unS_0 hcc)
        · rw [iI_le (by omega)] at h27
          obtain ⟨e', rfl⟩ : ∃ e', e = e' + 1 := ⟨e - 1, by omega⟩
          refine go_aload_n dX4_readUnit_30 rfl ?_
          refine go_iload_n dX4_readUnit_31 rfl ?_
          refine go_iconst (v := iI 1) dX4_readUnit_32 (by decide) ?_
          refine go_iadd dX4_readUnit_33 ?_
          have e6 : iI ((6 - (e' + 1) : Nat) : Int) + iI 1 = iI ((6 - e' : Nat) : Int) := by rw [iI_add]; congr 1; omega
          rw [e6]
          have hp1 := sk_lt_of (t := t) (a := a) (c := ch t (sk t a)) rfl (by omega)
          refine go_iload_n dX4_readUnit_34 rfl ?_
          refine go_callV (as := [_, _]) wX4_72 dX4_readUnit_35 rfl rfl rfl rfl (Nat.le_of_ble_eq_true rfl) (hns e' rfl (ch t (sk t a)) (by omega) τ _ (sk t a) cd hR hT hp1 hL (by omega) (fun q τ' fr hq => ?_) (fun q x τ' fr hq hL' => ?_))
          · refine go_if_eq (tgt := 45) dX4_readUnit_38 (by decide) (fun h38 => ?_) (fun h38 => ?_)
            · refine go_iconst (v := iI 0) dX4_readUnit_45 (by decide) ?_
              refine go_iret rfl rfl dX4_readUnit_46 ?_
              exact hK1 _ _ fr ((unS_x hcc).trans hq)
            · exact absurd h38 (by decide)
          · refine go_if_eq (tgt := 45) dX4_readUnit_38 (by decide) (fun h38 => ?_) (fun h38 => ?_)
            · exact absurd h38 (by decide)
            · refine go_iconst (v := iI 1) dX4_readUnit_41 (by decide) ?_
              refine go_goto (tgt := 46) dX4_readUnit_42 (by decide) ?_
              refine go_iret rfl rfl dX4_readUnit_46 ?_
              exact hK2 _ _ _ fr ((unS_x hcc).trans hq) hL'
