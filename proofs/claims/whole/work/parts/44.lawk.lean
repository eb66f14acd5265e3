/-! clauses of a law, the law -/
def anS (t : List Nat) (q : Nat) : RS := if ch t (sk t q) = 63 then smE t 6 (sk t q + 1) else (sk t q, none)
abbrev CL : Type := Option CV × CV
/-- behind a condition: more of it, then the answer -/
def tlS (t : List Nat) (q : Nat) (u : CV) : Nat × Option CL := match mtS t (unE t 6) q u with
  | (r, none) => (r, none)
  | (r, some x) => match anS t r with
    | (s, none) => (s, none)
    | (s, some y) => (s, some (some x, y))
def bdS (t : List Nat) (b : Nat) : Nat × Option CL :=
  if ch t (sk t b) = 33 ∨ ch t (sk t b) = 40 then match unE t 6 b with
    | (q, none) => (q, none)
    | (q, some u) => tlS t q u
  else match smE t 6 b with
    | (q, none) => (q, none)
    | (q, some x0) => if cmpO (ch t (sk t q)) = 0 then (sk t q, some (none, x0)) else match cpS t 6 q x0 with
      | (r, none) => (r, none)
      | (r, some u) => tlS t r u
def clC (t : List Nat) (a : Nat) : Nat × Option CL :=
  if ch t (sk t a) = 121 then (if ch t (sk t (sk t a + 1)) = 58 then bdS t (sk t (sk t a + 1) + 1) else (sk t (sk t a + 1), none)) else (sk t a, none)
def codeCl (cd : List Int) (c : CL) : List Int := match c.1 with
  | none => cd ++ c.2.1 ++ [-22]
  | some x => cd ++ x.1 ++ [-21, (((cd ++ x.1).length + c.2.1.length + 3 : Nat) : Int)] ++ c.2.1 ++ [-22]
def lwS (t : List Nat) : Nat → Nat → List CL → Nat × Option (List CL)
  | 0, a, _ => (a, none)
  | n + 1, a, L => match clC t a with
    | (q, none) => (q, none)
    | (q, some c) => if ch t (sk t q) = -1 then (sk t q, some (L ++ [c])) else if ch t (sk t q) = 59 then lwS t n (sk t q + 1) (L ++ [c]) else (sk t q, none)
def codeL (L : List CL) : List Int := L.foldl codeCl []
theorem codeL_push (L : List CL) (c : CL) : codeL (L ++ [c]) = codeCl (codeL L) c := by unfold codeL; rw [List.foldl_append]; rfl
theorem unE_sk {t : List Nat} {e a : Nat} : unE t e (sk t a) = unE t e a := by rw [unE_eq]; unfold unS; rw [sk_sk, smE_sk]
theorem LawC.set {τ τ' : AS} {cd : List Int} {i : Nat} {x : Int} (h : LawC τ cd) (hi : i < cd.length) (h0 : τ'.1 44 = τ.1 44) (h1 : τ'.1 45 = upd (τ.1 45) i (iI x)) : LawC τ' (cd.set i x) := by
  refine ⟨by rw [h0, List.length_set]; exact h.1, fun k y hy => ?_⟩
  rw [List.getElem?_set] at hy
  by_cases hk : i = k
  · rw [if_pos hk, if_pos hi] at hy
    have := Option.some.inj hy
    subst this; subst hk
    rw [h1, upd_same]
  · rw [if_neg hk] at hy
    rw [h1, upd_ne _ _ _ _ (fun q => hk q.symm)]
    exact h.2 k y hy
theorem ct_X3_putSkip {l : Launch} {D : va_G} {cA ad : Nat → Nat} {d : Nat} {τ : AS} {K : Option Value → AS → Prop} {q : Nat} {cd : List Int} (hR : RO τ) (hL : LawC τ cd) (hl : cd.length + 2 ≤ 240) (hK : ∀ τ', Fr 44 45 τ τ' → LawC τ' (cd ++ [-21, 0]) → K (some (.int (iI ((cd.length + 1 : Nat) : Int)))) (atc τ' q)) : Call l D cA ad (d + 1) mX3_putSkip [.ref 44] (atc τ q) K := by
  refine call_go (by decide) (Nat.le_of_ble_eq_true rfl) (show Go l D cA ad (d + 1) mX3_putSkip 0 [.ref 44] [] (atc τ q) K from ?_)
  refine go_aload_n dX3_putSkip_0 rfl ?_
  refine go_bipush (v := iI (-21)) dX3_putSkip_1 (by decide) ?_
  refine go_callV (as := [_]) wX3_39 dX3_putSkip_3 rfl rfl rfl rfl (Nat.le_of_ble_eq_true rfl) (ct_X3_put hR hL (by omega) (fun τ' fr hL' => ?_))
  refine go_aload_n dX3_putSkip_6 rfl ?_
  refine go_iconst (v := iI 0) dX3_putSkip_7 (by decide) ?_
  refine go_callV (as := [_]) wX3_39 dX3_putSkip_8 rfl rfl rfl rfl (Nat.le_of_ble_eq_true rfl) (ct_X3_put (fr.RO hR) hL' (by simp only [List.length_append, List.length_cons, List.length_nil]; omega) (fun τ2 fr2 hL2 => ?_))
  refine go_aload_n dX3_putSkip_11 rfl ?_
  refine go_getI fX3_35 dX3_putSkip_12 rfl ?_
  refine go_iconst (v := iI 1) dX3_putSkip_15 (by decide) ?_
  refine go_isub dX3_putSkip_16 ?_
  refine go_iret rfl rfl dX3_putSkip_17 ?_
  rw [List.append_assoc] at hL2
  have hL2 : LawC τ2 (cd ++ [-21, 0]) := hL2
  have e : (atc τ2 q).1 44 1 - iI 1 = iI ((cd.length + 1 : Nat) : Int) := by
    rw [atc_ne _ _ _ (by decide), hL2.1, iI_sub]
    congr 1
    simp only [List.length_append, List.length_cons, List.length_nil]
    omega
  rw [e]
  exact hK τ2 (fr.tr fr2) hL2
theorem ct_X3_endSkip {l : Launch} {D : va_G} {cA ad : Nat → Nat} {d : Nat} {τ : AS} {K : Option Value → AS → Prop} {q i : Nat} {cd : List Int} (hR : RO τ) (hL : LawC τ cd) (hl : cd.length ≤ 240) (hi : i < cd.length) (hK : ∀ τ', Fr 44 45 τ τ' → LawC τ' (cd.set i (cd.length : Int)) → K none (atc τ' q)) : Call l D cA ad d mX3_endSkip [.ref 44, .int (iI i)] (atc τ q) K := by
  refine call_go (by decide) (Nat.le_of_ble_eq_true rfl) (show Go l D cA ad d mX3_endSkip 0 [.ref 44, .int (iI i)] [] (atc τ q) K from ?_)
  refine go_iload_n dX3_endSkip_0 rfl ?_
  refine go_if_lt (tgt := 23) dX3_endSkip_1 (by decide) (fun h1 => ?_) (fun h1 => ?_)
  · exfalso
    rw [iI_lt0 (by omega)] at h1
    omega
  · refine go_iload_n dX3_endSkip_4 rfl ?_
    refine go_aload_n dX3_endSkip_5 rfl ?_
    refine go_getR fX3_9 dX3_endSkip_6 rfl (hR _ _ _ rfl) ?_
    refine go_alen1 dX3_endSkip_9 rfl ?_
    refine go_icmp_ge (tgt := 23) dX3_endSkip_10 (by decide) (fun h10 => ?_) (fun h10 => ?_)
    · exfalso
      rw [iI_ofNat, iI_le (by omega)] at h10
      omega
    · refine go_aload_n dX3_endSkip_13 rfl ?_
      refine go_getR fX3_9 dX3_endSkip_14 rfl (hR _ _ _ rfl) ?_
      refine go_iload_n dX3_endSkip_17 rfl ?_
      refine go_aload_n dX3_endSkip_18 rfl ?_
      refine go_getI fX3_35 dX3_endSkip_19 rfl ?_
      refine go_iast dX3_endSkip_22 rfl (by exact vp_iI (by omega)) ?_
      refine go_vret rfl dX3_endSkip_23 ?_
      rw [cl_n i (by omega), atc_ne _ _ _ (show (44 : Nat) ≠ 1 by decide), hL.1, atc_fd (by decide)]
      exact hK _ (Fr.rf.sI (by decide) (by decide)) (hL.set hi (by rw [sI_ne _ _ _ _ (by decide)]) (by rw [sI_same]))
theorem an_C {l : Launch} {D : va_G} {cA ad : Nat → Nat} {d : Nat} {t : List Nat} (ht : TOK t) (τ : AS) (K : Option Value → AS → Prop) (q : Nat) (cx : List Int) (hR : RO τ) (hT : TC τ t) (hq : q ≤ t.length) (hL : LawC τ cx) (hcx : cx.length + 2 ≤ q) (hK1 : ∀ r τ', Fr 44 45 τ τ' → anS t q = (r, none) → K (some (.int (iI 0))) (atc τ' r)) (hK2 : ∀ r y τ', Fr 44 45 τ τ' → anS t q = (r, some y) → LawC τ' (cx ++ [-21, ((cx.length + y.1.length + 3 : Nat) : Int)] ++ y.1 ++ [-22]) → K (some (.int (iI 1))) (atc τ' r)) : Call l D cA ad (d + 26) mX4_readAnswer [.ref 43] (atc τ q) K := by
  have ht1 := ht.1
  have hsk := sk_le hq
  have hsg := sk_ge t q
  refine call_go (by decide) (Nat.le_of_ble_eq_true rfl) (show Go l D cA ad (d + 26) mX4_readAnswer 0 [.ref 43, .null] [] (atc τ q) K from ?_)
  refine go_aload_n dX4_readAnswer_0 rfl ?_
  refine go_getR fX4_18 dX4_readAnswer_1 rfl (hR _ _ _ rfl) ?_
  refine go_bipush (v := iI 63) dX4_readAnswer_4 (by decide) ?_
  refine go_callV (as := [_]) wX4_39 dX4_readAnswer_6 rfl rfl rfl rfl (Nat.le_of_ble_eq_true rfl) (ct_X8_take (c := 63) ht hR hT hq (by decide) (fun hne => ?_) (fun heq => ?_))
  · refine go_if_ne (tgt := 14) dX4_readAnswer_9 (by decide) (fun h9 => ?_) (fun h9 => ?_)
    · exact absurd h9 (by decide)
    · refine go_iconst (v := iI 0) dX4_readAnswer_12 (by decide) ?_
      refine go_iret rfl rfl dX4_readAnswer_13 ?_
      refine hK1 _ _ Fr.rf ?_
      unfold anS
      rw [if_neg hne]
  · have hp1 := sk_lt_of (t := t) (a := q) heq (by decide)
    refine go_if_ne (tgt := 14) dX4_readAnswer_9 (by decide) (fun h9 => ?_) (fun h9 => ?_)
    · refine go_aload_n dX4_readAnswer_14 rfl ?_
      refine go_getR fX4_12 dX4_readAnswer_15 rfl (hR _ _ _ rfl) ?_
      refine go_callV (as := []) wX4_63 dX4_readAnswer_18 rfl rfl rfl rfl (Nat.le_of_ble_eq_true rfl) (ct_X3_putSkip hR hL (by omega) (fun τ' fr hL' => ?_))
      refine go_istore_n dX4_readAnswer_21 (Nat.le_of_ble_eq_true rfl) rfl ?_
      have hR' : RO τ' := fr.RO hR
      have hT' : TC τ' t := fr.TC hT (by decide)
      refine go_aload_n dX4_readAnswer_22 rfl ?_
      refine go_iconst (v := iI 0) dX4_readAnswer_23 (by decide) ?_
      refine go_callV (as := [_]) wX4_43 dX4_readAnswer_24 rfl rfl rfl rfl (Nat.le_of_ble_eq_true rfl) (sumC ht 6 d (by decide) τ' _ (sk t q + 1) (cx ++ [-21, 0]) hR' hT' hp1 hL' (by simp only [List.length_append, List.length_cons, List.length_nil]; omega) (fun r τ2 fr2 hq2 => ?_) (fun r y τ2 fr2 hq2 hL2 => ?_))
      · refine go_if_ne (tgt := 32) dX4_readAnswer_27 (by decide) (fun h27 => ?_) (fun h27 => ?_)
        · exact absurd h27 (by decide)
        · refine go_iconst (v := iI 0) dX4_readAnswer_30 (by decide) ?_
          refine go_iret rfl rfl dX4_readAnswer_31 ?_
          refine hK1 _ _ (fr.tr fr2) ?_
          unfold anS
          rw [if_pos heq]; exact hq2
      · have hR2 : RO τ2 := fr2.RO hR'
        have hT2 : TC τ2 t := fr2.TC hT' (by decide)
        have hgi := smE_gd (t := t) 6 (sk t q + 1) hp1
        rw [hq2] at hgi
        have hg2 := hgi.2.2 y rfl
        dsimp only at hgi hg2
        refine go_if_ne (tgt := 32) dX4_readAnswer_27 (by decide) (fun h27 => ?_) (fun h27 => ?_)
        · refine go_aload_n dX4_readAnswer_32 rfl ?_
          refine go_getR fX4_12 dX4_readAnswer_33 rfl (hR2 _ _ _ rfl) ?_
          refine go_bipush (v := iI (-22)) dX4_readAnswer_36 (by decide) ?_
          refine go_callV (as := [_]) wX4_49 dX4_readAnswer_38 rfl rfl rfl rfl (Nat.le_of_ble_eq_true rfl) (ct_X3_put hR2 hL2 (by simp only [List.length_append, List.length_cons, List.length_nil]; omega) (fun τ3 fr3 hL3 => ?_))
          refine go_aload_n dX4_readAnswer_41 rfl ?_
          refine go_getR fX4_12 dX4_readAnswer_42 rfl ((fr3.RO hR2) _ _ _ rfl) ?_
          refine go_iload_n dX4_readAnswer_45 rfl ?_
          refine go_callV (as := [_]) wX4_66 dX4_readAnswer_46 rfl rfl rfl rfl (Nat.le_of_ble_eq_true rfl) (ct_X3_endSkip (fr3.RO hR2) hL3 (by simp only [List.length_append, List.length_cons, List.length_nil]; omega) (by simp only [List.length_append, List.length_cons, List.length_nil]; omega) (fun τ4 fr4 hL4 => ?_))
          refine go_iconst (v := iI 1) dX4_readAnswer_49 (by decide) ?_
          refine go_iret rfl rfl dX4_readAnswer_50 ?_
          refine hK2 _ y _ (((fr.tr fr2).tr fr3).tr fr4) (by unfold anS; rw [if_pos heq]; exact hq2) ?_
          have e : (cx ++ [-21, 0] ++ y.1 ++ [-22]).set (cx.length + 1) (((cx ++ [-21, 0] ++ y.1 ++ [-22]).length : Nat) : Int) = cx ++ [-21, ((cx.length + y.1.length + 3 : Nat) : Int)] ++ y.1 ++ [-22] := by
            have e1 : (cx ++ [-21, 0] ++ y.1 ++ [-22]).length = cx.length + y.1.length + 3 := by simp only [List.length_append, List.length_cons, List.length_nil]; omega
            rw [e1, List.append_assoc, List.append_assoc, List.append_assoc, List.append_assoc, List.set_append_right _ _ (by omega), show cx.length + 1 - cx.length = 1 by omega]
            rfl
          rw [e] at hL4
          exact hL4
        · exact absurd h27 (by decide)
    · exact absurd h9 (by decide)
theorem c93 {l : Launch} {D : va_G} {cA ad : Nat → Nat} {d : Nat} {τ : AS} {K : Option Value → AS → Prop} {t : List Nat} {q : Nat} {cd : List Int} {u : CV} {v1 v2 : Int32} (ht : TOK t) (hR : RO τ) (hT : TC τ t) (hq : q ≤ t.length) (hL : LawC τ (cd ++ u.1)) (hcl : (cd ++ u.1).length + 2 ≤ q) (hK1 : ∀ r τ', Fr 44 45 τ τ' → tlS t q u = (r, none) → K (some (.int (iI 0))) (atc τ' r)) (hK2 : ∀ r c τ', Fr 44 45 τ τ' → tlS t q u = (r, some c) → LawC τ' (codeCl cd c) → K (some (.int (iI 1))) (atc τ' r)) : Go l D cA ad (d + 35) mX4_readClause 93 [.ref 43, .int v1, .int v2] [] (atc τ q) K := by
  have ht1 := ht.1
  refine go_aload_n dX4_readClause_93 rfl ?_
  refine go_iconst (v := iI 0) dX4_readClause_94 (by decide) ?_
  refine go_callV (as := [_]) wX4_57 dX4_readClause_95 rfl rfl rfl rfl (Nat.le_of_ble_eq_true rfl) (truthC ht 6 d (by decide) τ _ q cd u hR hT hq hL (by omega) (fun r τ' fr hq2 => ?_) (fun r x τ' fr hq2 hL' => ?_))
  · refine go_if_eq (tgt := 112) dX4_readClause_98 (by decide) (fun h98 => ?_) (fun h98 => ?_)
    · refine go_iconst (v := iI 0) dX4_readClause_112 (by decide) ?_
      refine go_iret rfl rfl dX4_readClause_113 ?_
      exact hK1 _ _ fr (by unfold tlS; rw [hq2])
    · exact absurd h98 (by decide)
  · have hR' : RO τ' := fr.RO hR
    have hT' : TC τ' t := fr.TC hT (by decide)
    have hgd : r ≤ t.length ∧ q ≤ r ∧ x.1.length + q ≤ r + u.1.length := by
      have hq3 := hq2
      unfold mtS at hq3
      have g1 := lpS_gd (o1 := -19) (o2 := -19) (c1 := 38) (c2 := 38) (unE_gd (t := t) 6) (by decide) (by decide) 242 q u hq
      cases e1 : muS t (unE t 6) q u with
      | mk q1 o1 =>
        rw [e1] at hq3
        unfold muS at e1
        rw [e1] at g1
        cases o1 with
        | none => cases hq3
        | some y =>
          have g2 := lpS_gd (o1 := -20) (o2 := -20) (c1 := 124) (c2 := 124) (rnS_gd (o1 := -19) (o2 := -19) (c1 := 38) (c2 := 38) (unE_gd (t := t) 6) (by decide) (by decide)) (by decide) (by decide) 242 q1 y g1.1
          have g3 := g1.2.2 y rfl
          dsimp only at hq3 g1 g3
          unfold paS at hq3
          rw [hq3] at g2
          have g4 := g2.2.2 x rfl
          dsimp only at g2 g4
          exact ⟨g2.1, by omega, by omega⟩
    refine go_if_eq (tgt := 112) dX4_readClause_98 (by decide) (fun h98 => ?_) (fun h98 => ?_)
    · exact absurd h98 (by decide)
    · refine go_aload_n dX4_readClause_101 rfl ?_
      refine go_callV (as := []) wX4_60 dX4_readClause_102 rfl rfl rfl rfl (Nat.le_of_ble_eq_true rfl) (an_C (d := d + 8) ht τ' _ r (cd ++ x.1) hR' hT' hgd.1 hL' (by simp only [List.length_append] at hcl ⊢; omega) (fun s2 τ2 fr2 hq3 => ?_) (fun s2 y τ2 fr2 hq3 hL2 => ?_))
      · refine go_if_eq (tgt := 112) dX4_readClause_105 (by decide) (fun h105 => ?_) (fun h105 => ?_)
        · refine go_iconst (v := iI 0) dX4_readClause_112 (by decide) ?_
          refine go_iret rfl rfl dX4_readClause_113 ?_
          exact hK1 _ _ (fr.tr fr2) (by unfold tlS; rw [hq2]; dsimp only; rw [hq3])
        · exact absurd h105 (by decide)
      · refine go_if_eq (tgt := 112) dX4_readClause_105 (by decide) (fun h105 => ?_) (fun h105 => ?_)
        · exact absurd h105 (by decide)
        · refine go_iconst (v := iI 1) dX4_readClause_108 (by decide) ?_
          refine go_goto (tgt := 113) dX4_readClause_109 (by decide) ?_
          refine go_iret rfl rfl dX4_readClause_113 ?_
          exact hK2 _ (some x, y) _ (fr.tr fr2) (by unfold tlS; rw [hq2]; dsimp only; rw [hq3]) hL2
theorem cl_C {l : Launch} {D : va_G} {cA ad : Nat → Nat} {d : Nat} {t : List Nat} (ht : TOK t) (τ : AS) (K : Option Value → AS → Prop) (a : Nat) (cd : List Int) (hR : RO τ) (hT : TC τ t) (ha : a ≤ t.length) (hL : LawC τ cd) (hcd : cd.length ≤ a) (hK1 : ∀ r τ', Fr 44 45 τ τ' → clC t a = (r, none) → K (some (.int (iI 0))) (atc τ' r)) (hK2 : ∀ r c τ', Fr 44 45 τ τ' → clC t a = (r, some c) → LawC τ' (codeCl cd c) → K (some (.int (iI 1))) (atc τ' r)) : Call l D cA ad (d + 35) mX4_readClause [.ref 43] (atc τ a) K := by
  have ht1 := ht.1
  have hsk := sk_le ha
  have hsg := sk_ge t a
  refine call_go (by decide) (Nat.le_of_ble_eq_true rfl) (show Go l D cA ad (d + 35) mX4_readClause 0 [.ref 43, .null, .null] [] (atc τ a) K from ?_)
  refine go_aload_n dX4_readClause_0 rfl ?_
  refine go_getR fX4_18 dX4_readClause_1 rfl (hR _ _ _ rfl) ?_
  refine go_bipush (v := iI 121) dX4_readClause_4 (by decide) ?_
  refine go_callV (as := [_]) wX4_39 dX4_readClause_6 rfl rfl rfl rfl (Nat.le_of_ble_eq_true rfl) (ct_X8_take (c := 121) ht hR hT ha (by decide) (fun hne => ?_) (fun heq => ?_))
  · refine go_if_eq (tgt := 24) dX4_readClause_9 (by decide) (fun h9 => ?_) (fun h9 => ?_)
    · refine go_iconst (v := iI 0) dX4_readClause_24 (by decide) ?_
      refine go_iret rfl rfl dX4_readClause_25 ?_
      exact hK1 _ _ Fr.rf (by unfold clC; rw [if_neg hne])
    · exact absurd h9 (by decide)
  · have hp1 := sk_lt_of (t := t) (a := a) heq (by decide)
    refine go_if_eq (tgt := 24) dX4_readClause_9 (by decide) (fun h9 => ?_) (fun h9 => ?_)
    · exact absurd h9 (by decide)
    · refine go_aload_n dX4_readClause_12 rfl ?_
      refine go_getR fX4_18 dX4_readClause_13 rfl (hR _ _ _ rfl) ?_
      refine go_bipush (v := iI 58) dX4_readClause_16 (by decide) ?_
      refine go_callV (as := [_]) wX4_39 dX4_readClause_18 rfl rfl rfl rfl (Nat.le_of_ble_eq_true rfl) (ct_X8_take (c := 58) ht hR hT hp1 (by decide) (fun hne2 => ?_) (fun heq2 => ?_))
      · refine go_if_ne (tgt := 26) dX4_readClause_21 (by decide) (fun h21 => ?_) (fun h21 => ?_)
        · exact absurd h21 (by decide)
        · refine go_iconst (v := iI 0) dX4_readClause_24 (by decide) ?_
          refine go_iret rfl rfl dX4_readClause_25 ?_
          exact hK1 _ _ Fr.rf (by unfold clC; rw [if_pos heq, if_neg hne2])
      · have hp2 := sk_lt_of (t := t) (a := sk t a + 1) heq2 (by decide)
        have hs2 := sk_ge t (sk t a + 1)
        have hbS : clC t a = bdS t (sk t (sk t a + 1) + 1) := by unfold clC; rw [if_pos heq, if_pos heq2]
        generalize hb : sk t (sk t a + 1) + 1 = b at hp2 hbS ⊢
        have hskb := sk_le hp2
        have hsgb := sk_ge t b
        have hchb := ch_lt ht (sk t b)
        refine go_if_ne (tgt := 26) dX4_readClause_21 (by decide) (fun h21 => ?_) (fun h21 => ?_)
        · refine go_aload_n dX4_readClause_26 rfl ?_
          refine go_getR fX4_18 dX4_readClause_27 rfl (hR _ _ _ rfl) ?_
          refine go_callV (as := []) wX4_35 dX4_readClause_30 rfl rfl rfl rfl (Nat.le_of_ble_eq_true rfl) (ct_X8_look ht hR hT hp2 ?_)
          refine go_istore_n dX4_readClause_33 (Nat.le_of_ble_eq_true rfl) rfl ?_
          refine go_iload_n dX4_readClause_34 rfl ?_
          refine go_bipush (v := iI 33) dX4_readClause_35 (by decide) ?_
          refine go_icmp_eq (tgt := 50) dX4_readClause_37 (by decide) (fun h37 => ?_) (fun h37 => ?_)
          · rw [iI_eq (by omega)] at h37
            have hcc : ch t (sk t b) = 33 ∨ ch t (sk t b) = 40 := Or.inl h37
            refine go_iconst (v := iI 0) dX4_readClause_50 (by decide) ?_
            refine go_istore_n dX4_readClause_51 (Nat.le_of_ble_eq_true rfl) rfl ?_
            refine go_iload_n dX4_readClause_52 rfl ?_
            refine go_if_eq (tgt := 84) dX4_readClause_53 (by decide) (fun h53 => ?_) (fun h53 => ?_)
            · simp only [List.set]
              refine go_aload_n dX4_readClause_84 rfl ?_
              refine go_iconst (v := iI 0) dX4_readClause_85 (by decide) ?_
              refine go_iload_n dX4_readClause_86 rfl ?_
              refine go_callV (as := [_, _]) wX4_53 dX4_readClause_87 rfl rfl rfl rfl (Nat.le_of_ble_eq_true rfl) (unitC ht 6 (d + 2) (by decide) τ _ (sk t b) cd hR hT hskb hL (by omega) (fun q τ' fr hq => ?_) (fun q u τ' fr hq hL' => ?_))
              · rw [unE_sk] at hq
                refine go_if_eq (tgt := 112) dX4_readClause_90 (by decide) (fun h90 => ?_) (fun h90 => ?_)
                · refine go_iconst (v := iI 0) dX4_readClause_112 (by decide) ?_
                  refine go_iret rfl rfl dX4_readClause_113 ?_
                  exact hK1 _ _ fr (hbS.trans (by unfold bdS; rw [if_pos hcc, hq]))
                · exact absurd h90 (by decide)
              · rw [unE_sk] at hq
                have hR' : RO τ' := fr.RO hR
                have hT' : TC τ' t := fr.TC hT (by decide)
                have hgi := unE_gd (t := t) 6 b hp2
                rw [hq] at hgi
                have hg2 := hgi.2.2 u rfl
                dsimp only at hgi hg2
                refine go_if_eq (tgt := 112) dX4_readClause_90 (by decide) (fun h90 => ?_) (fun h90 => ?_)
                · exact absurd h90 (by decide)
                · have e9 : clC t a = tlS t q u := hbS.trans (by unfold bdS; rw [if_pos hcc, hq])
                  exact c93 ht hR' hT' hgi.1 hL' (by simp only [List.length_append]; omega) (fun r τ2 fr2 h => hK1 r τ2 (fr.tr fr2) (e9.trans h)) (fun r c τ2 fr2 h => hK2 r c τ2 (fr.tr fr2) (e9.trans h))
            · exact absurd h53 (by decide)
          · rw [iI_eq (by omega)] at h37
            refine go_iload_n dX4_readClause_40 rfl ?_
            refine go_bipush (v := iI 40) dX4_readClause_41 (by decide) ?_
            refine go_icmp_eq (tgt := 50) dX4_readClause_43 (by decide) (fun h43 => ?_) (fun h43 => ?_)
            · rw [iI_eq (by omega)] at h43
              have hcc : ch t (sk t b) = 33 ∨ ch t (sk t b) = 40 := Or.inr h43
              refine go_iconst (v := iI 0) dX4_readClause_50 (by decide) ?_
              refine go_istore_n dX4_readClause_51 (Nat.le_of_ble_eq_true rfl) rfl ?_
              refine go_iload_n dX4_readClause_52 rfl ?_
              refine go_if_eq (tgt := 84) dX4_readClause_53 (by decide) (fun h53 => ?_) (fun h53 => ?_)
              · simp only [List.set]
                refine go_aload_n dX4_readClause_84 rfl ?_
                refine go_iconst (v := iI 0) dX4_readClause_85 (by decide) ?_
                refine go_iload_n dX4_readClause_86 rfl ?_
                refine go_callV (as := [_, _]) wX4_53 dX4_readClause_87 rfl rfl rfl rfl (Nat.le_of_ble_eq_true rfl) (unitC ht 6 (d + 2) (by decide) τ _ (sk t b) cd hR hT hskb hL (by omega) (fun q τ' fr hq => ?_) (fun q u τ' fr hq hL' => ?_))
                · rw [unE_sk] at hq
                  refine go_if_eq (tgt := 112) dX4_readClause_90 (by decide) (fun h90 => ?_) (fun h90 => ?_)
                  · refine go_iconst (v := iI 0) dX4_readClause_112 (by decide) ?_
                    refine go_iret rfl rfl dX4_readClause_113 ?_
                    exact hK1 _ _ fr (hbS.trans (by unfold bdS; rw [if_pos hcc, hq]))
                  · exact absurd h90 (by decide)
                · rw [unE_sk] at hq
                  have hR' : RO τ' := fr.RO hR
                  have hT' : TC τ' t := fr.TC hT (by decide)
                  have hgi := unE_gd (t := t) 6 b hp2
                  rw [hq] at hgi
                  have hg2 := hgi.2.2 u rfl
                  dsimp only at hgi hg2
                  refine go_if_eq (tgt := 112) dX4_readClause_90 (by decide) (fun h90 => ?_) (fun h90 => ?_)
                  · exact absurd h90 (by decide)
                  · have e9 : clC t a = tlS t q u := hbS.trans (by unfold bdS; rw [if_pos hcc, hq])
                    exact c93 ht hR' hT' hgi.1 hL' (by simp only [List.length_append]; omega) (fun r τ2 fr2 h => hK1 r τ2 (fr.tr fr2) (e9.trans h)) (fun r c τ2 fr2 h => hK2 r c τ2 (fr.tr fr2) (e9.trans h))
              · exact absurd h53 (by decide)
            · rw [iI_eq (by omega)] at h43
              refine go_iconst (v := iI 1) dX4_readClause_46 (by decide) ?_
              refine go_goto (tgt := 51) dX4_readClause_47 (by decide) ?_
              refine go_istore_n dX4_readClause_51 (Nat.le_of_ble_eq_true rfl) rfl ?_
              refine go_iload_n dX4_readClause_52 rfl ?_
              refine go_if_eq (tgt := 84) dX4_readClause_53 (by decide) (fun h53 => ?_) (fun h53 => ?_)
              · exact absurd h53 (by decide)
              · refine go_aload_n dX4_readClause_56 rfl ?_
                refine go_iconst (v := iI 0) dX4_readClause_57 (by decide) ?_
                refine go_callV (as := [_]) wX4_43 dX4_readClause_58 rfl rfl rfl rfl (Nat.le_of_ble_eq_true rfl) (sumC ht 6 (d + 9) (by decide) τ _ (sk t b) cd hR hT hskb hL (by omega) (fun q τ' fr hq => ?_) (fun q x τ' fr hq hL' => ?_))
                · rw [smE_sk] at hq
                  refine go_if_ne (tgt := 66) dX4_readClause_61 (by decide) (fun h61 => ?_) (fun h61 => ?_)
                  · exact absurd h61 (by decide)
                  · refine go_iconst (v := iI 0) dX4_readClause_64 (by decide) ?_
                    refine go_iret rfl rfl dX4_readClause_65 ?_
                    exact hK1 _ _ fr (hbS.trans (by unfold bdS; rw [if_neg (by omega), hq]))
                · rw [smE_sk] at hq
                  have hR' : RO τ' := fr.RO hR
                  have hT' : TC τ' t := fr.TC hT (by decide)
                  have hgi := smE_gd (t := t) 6 b hp2
                  rw [hq] at hgi
                  have hg2 := hgi.2.2 x rfl
                  dsimp only at hgi hg2
                  have hskq := sk_le hgi.1
                  have hsgq := sk_ge t q
                  have hco := cmpO_rng (ch t (sk t q))
                  refine go_if_ne (tgt := 66) dX4_readClause_61 (by decide) (fun h61 => ?_) (fun h61 => ?_)
                  · refine go_aload_n dX4_readClause_66 rfl ?_
                    refine go_callV (as := []) wX4_46 dX4_readClause_67 rfl rfl rfl rfl (Nat.le_of_ble_eq_true rfl) (ct_X4_comparison ht hR' hT' hgi.1 ?_)
                    refine go_if_ne (tgt := 84) dX4_readClause_70 (by decide) (fun h70 => ?_) (fun h70 => ?_)
                    · rw [iI_eq0 (by omega)] at h70
                      simp only [List.set]
                      refine go_aload_n dX4_readClause_84 rfl ?_
                      refine go_iconst (v := iI 0) dX4_readClause_85 (by decide) ?_
                      refine go_iload_n dX4_readClause_86 rfl ?_
                      refine go_callV (as := [_, _]) wX4_53 dX4_readClause_87 rfl rfl rfl rfl (Nat.le_of_ble_eq_true rfl) (ub_C (e := 6) (d := d + 31) ht (sumC ht 6 (d + 8) (by decide)) τ' _ (sk t q) cd x hR' hT' hskq hL' (by simp only [List.length_append]; omega) (fun r τ2 fr2 hq2 => ?_) (fun r u τ2 fr2 hq2 hL2 => ?_))
                      · have e9 : cpS t 6 (sk t q) x = cpS t 6 q x := by unfold cpS; rw [sk_sk]
                        rw [e9] at hq2
                        refine go_if_eq (tgt := 112) dX4_readClause_90 (by decide) (fun h90 => ?_) (fun h90 => ?_)
                        · refine go_iconst (v := iI 0) dX4_readClause_112 (by decide) ?_
                          refine go_iret rfl rfl dX4_readClause_113 ?_
                          exact hK1 _ _ (fr.tr fr2) (hbS.trans (by unfold bdS; rw [if_neg (by omega), hq]; dsimp only; rw [if_neg h70, hq2]))
                        · exact absurd h90 (by decide)
                      · have e9 : cpS t 6 (sk t q) x = cpS t 6 q x := by unfold cpS; rw [sk_sk]
                        rw [e9] at hq2
                        have hR2 : RO τ2 := fr2.RO hR'
                        have hT2 : TC τ2 t := fr2.TC hT' (by decide)
                        have hgj := cpS_gd (t := t) (e := 6) (x := x) hgi.1
                        rw [hq2] at hgj
                        have hg3 := hgj.2.2 u rfl
                        dsimp only at hgj hg3
                        refine go_if_eq (tgt := 112) dX4_readClause_90 (by decide) (fun h90 => ?_) (fun h90 => ?_)
                        · exact absurd h90 (by decide)
                        · have e8 : clC t a = tlS t r u := hbS.trans (by unfold bdS; rw [if_neg (by omega), hq]; dsimp only; rw [if_neg h70, hq2])
                          exact c93 ht hR2 hT2 hgj.1 hL2 (by simp only [List.length_append]; omega) (fun r2 τ3 fr3 h => hK1 r2 τ3 ((fr.tr fr2).tr fr3) (e8.trans h)) (fun r2 c τ3 fr3 h => hK2 r2 c τ3 ((fr.tr fr2).tr fr3) (e8.trans h))
                    · rw [iI_eq0 (by omega)] at h70
                      refine go_aload_n dX4_readClause_73 rfl ?_
                      refine go_getR fX4_12 dX4_readClause_74 rfl (hR' _ _ _ rfl) ?_
                      refine go_bipush (v := iI (-22)) dX4_readClause_77 (by decide) ?_
                      refine go_callV (as := [_]) wX4_49 dX4_readClause_79 rfl rfl rfl rfl (Nat.le_of_ble_eq_true rfl) (ct_X3_put hR' hL' (by simp only [List.length_append]; omega) (fun τ2 fr2 hL2 => ?_))
                      refine go_iconst (v := iI 1) dX4_readClause_82 (by decide) ?_
                      refine go_iret rfl rfl dX4_readClause_83 ?_
                      exact hK2 _ (none, x) _ (fr.tr fr2) (hbS.trans (by unfold bdS; rw [if_neg (by omega), hq]; dsimp only; rw [if_pos h70])) hL2
                  · exact absurd h61 (by decide)
        · exact absurd h21 (by decide)
