/-! keys, kept -/
def dpF (s : PS) (hv : Option (List CL)) : Nat → WT → Bool
  | 0, _ => true
  | n + 1, w => if barF s (dayF s hv (skv s 0) w) = 0 then dpF s hv n (dayF s hv (skv s 0) w) else false
def deepB (X : XS) (n m : Nat) : Bool := dpF (xs X) (xv X) n (setO (xw X) m)
def mnS (P : Nat → Bool) : Nat → Option Nat
  | 0 => none
  | i + 1 => match mnS P i with
    | none => if P i = true then some i else none
    | some b => if pop9 i < pop9 b ∧ P i = true then some i else some b
def obI : Option Nat → Int
  | none => -1
  | some b => b
def fwI (N : Nat) : Option Nat → Int
  | none => (N : Int) + 1
  | some b => (pop9 b : Nat)
theorem mnS_lt {P : Nat → Bool} : ∀ (i b : Nat), mnS P i = some b → b < i
  | 0, b, h => by cases h
  | i + 1, b, h => by
    unfold mnS at h
    cases hm : mnS P i with
    | none =>
      rw [hm] at h
      dsimp only at h
      split at h
      · cases h; omega
      · cases h
    | some c =>
      rw [hm] at h
      have := mnS_lt i c hm
      dsimp only at h
      split at h
      · cases h; omega
      · cases h; omega
theorem mnS_a {P : Nat → Bool} {i N : Nat} (h : ¬ ((pop9 i : Nat) : Int) < fwI N (mnS P i)) (hp : pop9 i ≤ N) : mnS P (i + 1) = mnS P i := by
  conv => lhs; unfold mnS
  cases hm : mnS P i with
  | none => rw [hm] at h; unfold fwI at h; dsimp only at h; omega
  | some b => rw [hm] at h; unfold fwI at h; dsimp only at h ⊢; rw [if_neg (fun q => h (by have := q.1; omega))]
theorem mnS_b {P : Nat → Bool} {i : Nat} (h : P i = false) : mnS P (i + 1) = mnS P i := by
  conv => lhs; unfold mnS
  cases hm : mnS P i with
  | none => dsimp only; rw [if_neg (by rw [h]; decide)]
  | some b => dsimp only; rw [if_neg (fun q => by have := q.2; rw [h] at this; cases this)]
theorem mnS_c {P : Nat → Bool} {i N : Nat} (h : ((pop9 i : Nat) : Int) < fwI N (mnS P i)) (hp : P i = true) : mnS P (i + 1) = some i := by
  unfold mnS
  cases hm : mnS P i with
  | none => dsimp only; rw [if_pos hp]
  | some b => rw [hm] at h; unfold fwI at h; dsimp only at h ⊢; rw [if_pos ⟨by omega, hp⟩]
theorem mnS_bd {P : Nat → Bool} {i N : Nat} (hi : i ≤ 512) (hN : N ≤ 9) : -1 ≤ obI (mnS P i) ∧ obI (mnS P i) < 512 ∧ 0 ≤ fwI N (mnS P i) ∧ fwI N (mnS P i) ≤ 10 := by
  cases hm : mnS P i with
  | none => unfold obI fwI; dsimp only; omega
  | some b =>
    have h1 := mnS_lt i b hm
    have h2 := bc_ok b (by omega)
    unfold obI fwI
    dsimp only
    omega
def keysA (X : XS) (n : Int) : Int := if 0 < nP (xs X) ∧ 1 ≤ n ∧ n ≤ 9 then obI (mnS (deepB X n.toNat) (2 ^ nQ (xs X))) else -1
def bcF (X : XS) (n m : Nat) : Nat := pop9 (barF (xs X) (aftF X n m))
theorem bar_512 {s : PS} (hS : TwK s) (w : WT) : barF s w < 512 := btF_512 _ _ (by have := hS.1; omega)
theorem bcF_le {X : XS} (hK : XK X) (n m : Nat) : bcF X n m ≤ nP (xs X) := pop_le _ (bar_512 hK.s _) _ (by have := hK.s.1; omega) (btF_lt _ _ (by have := hK.s.1; omega))
def kpF (X : XS) (n : Nat) : Nat → Nat × Nat
  | 0 => (0, 8)
  | i + 1 => if bcF X n i < (kpF X n i).2 ∨ (bcF X n i = (kpF X n i).2 ∧ pop9 i < pop9 (kpF X n i).1) then (i, bcF X n i) else kpF X n i
theorem kpF_ok {X : XS} (hK : XK X) (n : Nat) : ∀ i, (kpF X n i).1 ≤ i ∧ (kpF X n i).2 ≤ 8 ∧ (1 ≤ i → (kpF X n i).1 < i ∧ (kpF X n i).2 = bcF X n (kpF X n i).1)
  | 0 => ⟨Nat.le_refl _, Nat.le_refl _, fun h => by omega⟩
  | i + 1 => by
    have ih := kpF_ok hK n i
    have hb := bcF_le hK n i
    have hP7 := hK.s.1
    unfold kpF
    split
    · exact ⟨by dsimp only; omega, by dsimp only; omega, fun _ => ⟨by dsimp only; omega, rfl⟩⟩
    · rename_i hx
      by_cases c : i = 0
      · subst c
        exact absurd (Or.inl (by show bcF X n 0 < 8; omega)) hx
      · have := ih.2.2 (by omega)
        exact ⟨by omega, by omega, fun _ => ⟨by omega, this.2⟩⟩
def keptA (X : XS) (n v : Int) : Int := if (0 < nP (xs X) ∧ 1 ≤ n ∧ n ≤ 9) ∧ 0 ≤ v ∧ v ≤ 1 then (if v = 1 then ((kpF X n.toNat (2 ^ nQ (xs X))).1 : Int) else (nP (xs X) : Int) - (kpF X n.toNat (2 ^ nQ (xs X))).2) else -1
def kbI (N i : Nat) (q : Nat × Nat) : Int × Int := if i = 0 then (-1, 0) else ((q.1 : Int), (N : Int) - q.2)
theorem ct_X11_isPlannable {l : Launch} {D : va_G} {cA ad : Nat → Nat} {d : Nat} {σ : AS} {K : Option Value → AS → Prop} {s : PS} {n : Int} (hR : RO σ) (hT : TwC σ s) (hS : TwK s) (hn32 : -2147483648 ≤ n ∧ n < 2147483648) (hK1 : ∀ q : Nat, n = q → 0 < nP s → 1 ≤ q → q ≤ 9 → K (some (.int (iI 1))) σ) (hK0 : ¬ (0 < nP s ∧ 1 ≤ n ∧ n ≤ 9) → K (some (.int (iI 0))) σ) : Call l D cA ad (d + 1) mX11_isPlannable [.ref 0, .int (iI n)] σ K := by
  refine call_go (by decide) (Nat.le_of_ble_eq_true rfl) (show Go l D cA ad (d + 1) mX11_isPlannable 0 [.ref 0, .int (iI n)] [] σ K from ?_)
  refine go_aload_n dX11_isPlannable_0 rfl ?_
  refine go_getR fX11_19 dX11_isPlannable_1 rfl (hR _ _ _ rfl) ?_
  refine go_callV (as := []) wX11_135 dX11_isPlannable_4 rfl rfl rfl rfl (Nat.le_of_ble_eq_true rfl) (ct_told2 hT hS (fun hn => ?_) (fun hn => ?_))
  · refine go_if_eq (tgt := 25) dX11_isPlannable_7 (by decide) (fun h7 => ?_) (fun h7 => ?_)
    · exact absurd h7 (by decide)
    · refine go_iload_n dX11_isPlannable_10 rfl ?_
      refine go_iconst (v := iI 1) dX11_isPlannable_11 (by decide) ?_
      refine go_icmp_lt (tgt := 25) dX11_isPlannable_12 (by decide) (fun h12 => ?_) (fun h12 => ?_)
      · rw [iI_lt (by omega)] at h12
        refine go_iconst (v := iI 0) dX11_isPlannable_25 (by decide) ?_
        refine go_iret rfl rfl dX11_isPlannable_26 ?_
        exact hK0 (by omega)
      · rw [iI_lt (by omega)] at h12
        refine go_iload_n dX11_isPlannable_15 rfl ?_
        refine go_bipush (v := iI 9) dX11_isPlannable_16 (by decide) ?_
        refine go_icmp_gt (tgt := 25) dX11_isPlannable_18 (by decide) (fun h18 => ?_) (fun h18 => ?_)
        · rw [iI_lt (by omega)] at h18
          refine go_iconst (v := iI 0) dX11_isPlannable_25 (by decide) ?_
          refine go_iret rfl rfl dX11_isPlannable_26 ?_
          exact hK0 (by omega)
        · rw [iI_lt (by omega)] at h18
          refine go_iconst (v := iI 1) dX11_isPlannable_21 (by decide) ?_
          refine go_goto (tgt := 26) dX11_isPlannable_22 (by decide) ?_
          refine go_iret rfl rfl dX11_isPlannable_26 ?_
          exact hK1 n.toNat (by omega) hn (by omega) (by omega)
  · refine go_if_eq (tgt := 25) dX11_isPlannable_7 (by decide) (fun h7 => ?_) (fun h7 => ?_)
    · refine go_iconst (v := iI 0) dX11_isPlannable_25 (by decide) ?_
      refine go_iret rfl rfl dX11_isPlannable_26 ?_
      exact hK0 (by omega)
    · exact absurd h7 (by decide)

theorem sd21 {l : Launch} {D : va_G} {cA ad : Nat → Nat} {d : Nat} {σ : AS} {K : Option Value → AS → Prop} {X : XS} {B : Bool} {n : Nat} {m : Int32} (hR : RO σ) (hK0 : XK X) (hC : CI σ X) (hn : n ≤ 1000) (hK : ∀ τ, QF σ τ → K (some (.int (if B = true then iI 1 else iI 0))) τ) : ∀ (r i : Nat) (w : WT) (τ : AS), r + i = n → QF σ τ → WC τ 106 w → WK (xs X) w → dy w + r ≤ 20000 → dpF (xs X) (xv X) r w = B → Go l D cA ad (d + 5) mX6_staysDeep 21 [.ref 105, .int (iI n), .int m, .int (iI i)] [] τ K := by
  intro r
  induction r with
  | zero =>
    intro i w τ hr hq hW hw hd hres
    refine go_iload_n dX6_staysDeep_21 rfl ?_
    refine go_iload_n dX6_staysDeep_22 rfl ?_
    refine go_icmp_ge (tgt := 68) dX6_staysDeep_23 (by decide) (fun h23 => ?_) (fun h23 => ?_)
    · refine go_iconst (v := iI 1) dX6_staysDeep_68 (by decide) ?_
      refine go_iret rfl rfl dX6_staysDeep_69 ?_
      have e : true = B := hres
      rw [← e] at hK
      exact hK τ hq
    · exfalso
      rw [iI_le (by omega)] at h23
      omega
  | succ r ih =>
    intro i w τ hr hq hW hw hd hres
    refine go_iload_n dX6_staysDeep_21 rfl ?_
    refine go_iload_n dX6_staysDeep_22 rfl ?_
    refine go_icmp_ge (tgt := 68) dX6_staysDeep_23 (by decide) (fun h23 => ?_) (fun h23 => ?_)
    · exfalso
      rw [iI_le (by omega)] at h23
      omega
    · refine go_aload_n dX6_staysDeep_26 rfl ?_
      refine go_getR fX6_26 dX6_staysDeep_27 rfl (hq.RO hR _ _ _ rfl) ?_
      refine go_aload_n dX6_staysDeep_30 rfl ?_
      refine go_getR fX6_12 dX6_staysDeep_31 rfl (hq.RO hR _ _ _ rfl) ?_
      refine go_aload_n dX6_staysDeep_34 rfl ?_
      refine go_getR fX6_22 dX6_staysDeep_35 rfl (hq.RO hR _ _ _ rfl) ?_
      refine go_getR fX6_41 dX6_staysDeep_38 rfl (hq.RO hR _ _ _ rfl) ?_
      refine go_iconst (v := iI 0) dX6_staysDeep_41 (by decide) ?_
      refine go_iald dX6_staysDeep_42 rfl (vp_iI (by decide)) ?_
      rw [cl_0, (hC.q hK0 hq).2.1.2.2.1 0 (by decide)]
      refine go_callV (as := [_, _]) wX6_46 dX6_staysDeep_43 rfl rfl rfl rfl (Nat.le_of_ble_eq_true rfl) (ct_X2_passDay (hq.RO hR) (hC.q hK0 hq).2.1 hK0.s WB_106 hW hw (by decide) hK0.L (hC.q hK0 hq).2.2.2.2.2.2.2.1 (by have := hK0.s.2.2.1 0 (by decide); omega) (fun ρ fr hW2 => ?_))
      have hq2 := hq.tr (QF.w fr)
      refine go_aload_n dX6_staysDeep_46 rfl ?_
      refine go_getR fX6_22 dX6_staysDeep_47 rfl (hq2.RO hR _ _ _ rfl) ?_
      refine go_aload_n dX6_staysDeep_50 rfl ?_
      refine go_getR fX6_12 dX6_staysDeep_51 rfl (hq2.RO hR _ _ _ rfl) ?_
      refine go_callV (as := [_]) wX6_111 dX6_staysDeep_54 rfl rfl rfl rfl (Nat.le_of_ble_eq_true rfl) (ct_X9_bareAmong (hq2.RO hR) (hC.q hK0 hq2).2.1 hK0.s WB_106 hW2 (dayF_ok (hv := hLw (xL X) (xh X)) hK0.s hw (hK0.s.2.2.1 0 (by decide)).1 (by omega)).1 ?_)
      refine go_if_eq (tgt := 62) dX6_staysDeep_57 (by decide) (fun h57 => ?_) (fun h57 => ?_)
      · rw [iI_eq0 (by have := bar_512 hK0.s (dayF (xs X) (hLw (xL X) (xh X)) (skv (xs X) 0) w); omega)] at h57
        refine go_iincI dX6_staysDeep_62 rfl (Nat.le_of_ble_eq_true rfl) rfl ?_
        refine go_goto (tgt := 21) dX6_staysDeep_65 (by decide) ?_
        simp only [List.set, iI_add]
        exact ih (i + 1) _ ρ (by omega) hq2 hW2 (dayF_ok (hv := hLw (xL X) (xh X)) hK0.s hw (hK0.s.2.2.1 0 (by decide)).1 (by omega)).1 (by rw [(dayF_ok (hv := hLw (xL X) (xh X)) hK0.s hw (hK0.s.2.2.1 0 (by decide)).1 (by omega)).2.2]; omega) (by rw [← hres]; exact (if_pos (show barF (xs X) (dayF (xs X) (hLw (xL X) (xh X)) (skv (xs X) 0) w) = 0 by omega)).symm)
      · rw [iI_eq0 (by have := bar_512 hK0.s (dayF (xs X) (hLw (xL X) (xh X)) (skv (xs X) 0) w); omega)] at h57
        refine go_iconst (v := iI 0) dX6_staysDeep_60 (by decide) ?_
        refine go_iret rfl rfl dX6_staysDeep_61 ?_
        have e : false = B := by rw [← hres]; exact (if_neg (fun q => h57 (by have q2 : barF (xs X) (dayF (xs X) (hLw (xL X) (xh X)) (skv (xs X) 0) w) = 0 := q; omega))).symm
        rw [← e] at hK
        exact hK ρ hq2
theorem ct_X6_staysDeep {l : Launch} {D : va_G} {cA ad : Nat → Nat} {d : Nat} {σ : AS} {K : Option Value → AS → Prop} {X : XS} {n m : Nat} (hR : RO σ) (hK0 : XK X) (hC : CI σ X) (hn : n ≤ 1000) (hm : m < 2 ^ nQ (xs X)) (hK : ∀ τ, QF σ τ → K (some (.int (if deepB X n m = true then iI 1 else iI 0))) τ) : Call l D cA ad (d + 5) mX6_staysDeep [.ref 105, .int (iI n), .int (iI m)] σ K := by
  refine call_go (by decide) (Nat.le_of_ble_eq_true rfl) (show Go l D cA ad (d + 5) mX6_staysDeep 0 [.ref 105, .int (iI n), .int (iI m), .null] [] σ K from ?_)
  refine go_aload_n dX6_staysDeep_0 rfl ?_
  refine go_getR fX6_12 dX6_staysDeep_1 rfl (hR _ _ _ rfl) ?_
  refine go_aload_n dX6_staysDeep_4 rfl ?_
  refine go_getR fX6_30 dX6_staysDeep_5 rfl (hR _ _ _ rfl) ?_
  refine go_callV (as := [_]) wX6_33 dX6_staysDeep_8 rfl rfl rfl rfl (Nat.le_of_ble_eq_true rfl) (ct_X10_become (w := xw X) hR WB_106 WB_87 (by decide) hC.2.2.1 (fun τ fr hW => ?_))
  refine go_aload_n dX6_staysDeep_11 rfl ?_
  refine go_getR fX6_12 dX6_staysDeep_12 rfl (fr.RO hR _ _ _ rfl) ?_
  refine go_iload_n dX6_staysDeep_15 rfl ?_
  refine go_putI fX6_37 rfl dX6_staysDeep_16 rfl rfl rfl ?_
  refine go_iconst (v := iI 0) dX6_staysDeep_19 (by decide) ?_
  refine go_istore_n dX6_staysDeep_20 (Nat.le_of_ble_eq_true rfl) rfl ?_
  simp only [List.set]
  exact sd21 hR hK0 hC hn hK n 0 (setO (xw X) m) _ (by omega) (QF_s106 (QF.r fr)) (WC_o hW) (setO_ok hK0.w hm) (by have := hK0.d; show dy (xw X) + n ≤ 20000; omega) rfl

theorem fk15 {l : Launch} {D : va_G} {cA ad : Nat → Nat} {d : Nat} {σ : AS} {K : Option Value → AS → Prop} {X : XS} {n : Nat} (hR : RO σ) (hK0 : XK X) (hC : CI σ X) (hn : n ≤ 9) (hK : ∀ τ, QF σ τ → K (some (.int (iI (obI (mnS (deepB X n) (2 ^ nQ (xs X))))))) τ) : ∀ (r i : Nat) (τ : AS), r + i = 2 ^ nQ (xs X) → QF σ τ → Go l D cA ad (d + 6) mX6_fewestKeys 15 [.ref 105, .int (iI n), .int (iI (obI (mnS (deepB X n) i))), .int (iI (fwI (nQ (xs X)) (mnS (deepB X n) i))), .int (iI i)] [] τ K := by
  have hQ9 := hK0.s.2.1
  have hpw := pw_lt (nQ (xs X)) (by omega)
  intro r
  induction r with
  | zero =>
    intro i τ hr hq
    refine go_iload dX6_fewestKeys_15 rfl ?_
    refine go_iconst (v := iI 1) dX6_fewestKeys_17 (by decide) ?_
    refine go_aload_n dX6_fewestKeys_18 rfl ?_
    refine go_getR fX6_22 dX6_fewestKeys_19 rfl (hq.RO hR _ _ _ rfl) ?_
    refine go_getI fX6_98 dX6_fewestKeys_22 rfl ?_
    refine go_ishl dX6_fewestKeys_25 ?_
    refine go_icmp_ge (tgt := 63) dX6_fewestKeys_26 (by decide) (fun h26 => ?_) (fun h26 => ?_)
    · refine go_iload_n dX6_fewestKeys_63 rfl ?_
      refine go_iret rfl rfl dX6_fewestKeys_64 ?_
      obtain rfl : i = 2 ^ nQ (xs X) := by omega
      exact hK τ hq
    · exfalso
      rw [(hC.q hK0 hq).2.1.2.1, b_shl9 _ (by omega)] at h26
      generalize 2 ^ nQ (xs X) = N at *
      rw [iI_le (by omega)] at h26
      omega
  | succ r ih =>
    intro i τ hr hq
    refine go_iload dX6_fewestKeys_15 rfl ?_
    refine go_iconst (v := iI 1) dX6_fewestKeys_17 (by decide) ?_
    refine go_aload_n dX6_fewestKeys_18 rfl ?_
    refine go_getR fX6_22 dX6_fewestKeys_19 rfl (hq.RO hR _ _ _ rfl) ?_
    refine go_getI fX6_98 dX6_fewestKeys_22 rfl ?_
    refine go_ishl dX6_fewestKeys_25 ?_
    refine go_icmp_ge (tgt := 63) dX6_fewestKeys_26 (by decide) (fun h26 => ?_) (fun h26 => ?_)
    · exfalso
      rw [(hC.q hK0 hq).2.1.2.1, b_shl9 _ (by omega)] at h26
      generalize 2 ^ nQ (xs X) = N at *
      rw [iI_le (by omega)] at h26
      omega
    · have hbd := mnS_bd (P := deepB X n) (i := i) (N := nQ (xs X)) (by omega) (by omega)
      have hpc := bc_ok i (by omega)
      have hpl := pop_le i (by omega) (nQ (xs X)) (by omega) (by omega)
      refine go_iload dX6_fewestKeys_29 rfl ?_
      refine go_callS (as := [_]) wX6_101 dX6_fewestKeys_31 rfl rfl (Nat.le_of_ble_eq_true rfl) (ct_J6_bitCount_0f7a4 (by omega) ?_)
      refine go_iload_n dX6_fewestKeys_34 rfl ?_
      refine go_icmp_ge (tgt := 57) dX6_fewestKeys_35 (by decide) (fun h35 => ?_) (fun h35 => ?_)
      · rw [iI_le (by omega)] at h35
        refine go_iincI dX6_fewestKeys_57 rfl (Nat.le_of_ble_eq_true rfl) rfl ?_
        refine go_goto (tgt := 15) dX6_fewestKeys_60 (by decide) ?_
        simp only [List.set, iI_add]
        have h9 := ih (i + 1) τ (by omega) hq
        rw [mnS_a (by omega) hpl] at h9
        exact h9
      · rw [iI_le (by omega)] at h35
        refine go_aload_n dX6_fewestKeys_38 rfl ?_
        refine go_iload_n dX6_fewestKeys_39 rfl ?_
        refine go_iload dX6_fewestKeys_40 rfl ?_
        refine go_callV (as := [_, _]) wX6_107 dX6_fewestKeys_42 rfl rfl rfl rfl (Nat.le_of_ble_eq_true rfl) (ct_X6_staysDeep (hq.RO hR) hK0 (hC.q hK0 hq) (by omega) (by omega) (fun ρ hq2 => ?_))
        cases hB : deepB X n i with
        | false =>
          rw [if_neg (by decide)]
          refine go_if_eq (tgt := 57) dX6_fewestKeys_45 (by decide) (fun h45 => ?_) (fun h45 => ?_)
          · refine go_iincI dX6_fewestKeys_57 rfl (Nat.le_of_ble_eq_true rfl) rfl ?_
            refine go_goto (tgt := 15) dX6_fewestKeys_60 (by decide) ?_
            simp only [List.set, iI_add]
            have h9 := ih (i + 1) ρ (by omega) (hq.tr hq2)
            rw [mnS_b hB] at h9
            exact h9
          · exact absurd h45 (by decide)
        | true =>
          rw [if_pos rfl]
          refine go_if_eq (tgt := 57) dX6_fewestKeys_45 (by decide) (fun h45 => ?_) (fun h45 => ?_)
          · exact absurd h45 (by decide)
          · refine go_iload dX6_fewestKeys_48 rfl ?_
            refine go_istore_n dX6_fewestKeys_50 (Nat.le_of_ble_eq_true rfl) rfl ?_
            refine go_iload dX6_fewestKeys_51 rfl ?_
            refine go_callS (as := [_]) wX6_101 dX6_fewestKeys_53 rfl rfl (Nat.le_of_ble_eq_true rfl) (ct_J6_bitCount_0f7a4 (by omega) ?_)
            refine go_istore_n dX6_fewestKeys_56 (Nat.le_of_ble_eq_true rfl) rfl ?_
            refine go_iincI dX6_fewestKeys_57 rfl (Nat.le_of_ble_eq_true rfl) rfl ?_
            refine go_goto (tgt := 15) dX6_fewestKeys_60 (by decide) ?_
            simp only [List.set, iI_add]
            have h9 := ih (i + 1) ρ (by omega) (hq.tr hq2)
            rw [mnS_c (N := nQ (xs X)) (by omega) hB] at h9
            exact h9
theorem ct_X6_fewestKeys {l : Launch} {D : va_G} {cA ad : Nat → Nat} {d : Nat} {σ : AS} {K : Option Value → AS → Prop} {X : XS} {n : Nat} (hR : RO σ) (hK0 : XK X) (hC : CI σ X) (hn : n ≤ 9) (hK : ∀ τ, QF σ τ → K (some (.int (iI (obI (mnS (deepB X n) (2 ^ nQ (xs X))))))) τ) : Call l D cA ad (d + 6) mX6_fewestKeys [.ref 105, .int (iI n)] σ K := by
  refine call_go (by decide) (Nat.le_of_ble_eq_true rfl) (show Go l D cA ad (d + 6) mX6_fewestKeys 0 [.ref 105, .int (iI n), .null, .null, .null] [] σ K from ?_)
  refine go_iconst (v := iI (-1)) dX6_fewestKeys_0 (by decide) ?_
  refine go_istore_n dX6_fewestKeys_1 (Nat.le_of_ble_eq_true rfl) rfl ?_
  refine go_aload_n dX6_fewestKeys_2 rfl ?_
  refine go_getR fX6_22 dX6_fewestKeys_3 rfl (hR _ _ _ rfl) ?_
  refine go_getI fX6_98 dX6_fewestKeys_6 rfl ?_
  rw [hC.2.1.2.1]
  refine go_iconst (v := iI 1) dX6_fewestKeys_9 (by decide) ?_
  refine go_iadd dX6_fewestKeys_10 ?_
  rw [iI_add]
  refine go_istore_n dX6_fewestKeys_11 (Nat.le_of_ble_eq_true rfl) rfl ?_
  refine go_iconst (v := iI 0) dX6_fewestKeys_12 (by decide) ?_
  refine go_istore dX6_fewestKeys_13 (Nat.le_of_ble_eq_true rfl) rfl ?_
  simp only [List.set]
  exact fk15 hR hK0 hC hn hK (2 ^ nQ (xs X)) 0 σ (by omega) QF.rf

theorem ct_X11_keys {l : Launch} {D : va_G} {cA ad : Nat → Nat} {d : Nat} {σ : AS} {K : Option Value → AS → Prop} {X : XS} {n : Int} (hR : RO σ) (hK0 : XK X) (hC : CI σ X) (hn32 : -2147483648 ≤ n ∧ n < 2147483648) (hK : ∀ τ, QF σ τ → K (some (.int (iI (keysA X n)))) τ) : Call l D cA ad (d + 7) mX11_keys [.ref 0, .int (iI n)] σ K := by
  refine call_go (by decide) (Nat.le_of_ble_eq_true rfl) (show Go l D cA ad (d + 7) mX11_keys 0 [.ref 0, .int (iI n)] [] σ K from ?_)
  refine go_aload_n dX11_keys_0 rfl ?_
  refine go_iload_n dX11_keys_1 rfl ?_
  refine go_callV (as := [_]) wX11_260 dX11_keys_2 rfl rfl rfl rfl (Nat.le_of_ble_eq_true rfl) (ct_X11_isPlannable hR hC.2.1 hK0.s hn32 (fun q hqe h0 h1 h2 => ?_) (fun hx => ?_))
  · refine go_if_eq (tgt := 19) dX11_keys_5 (by decide) (fun h5 => ?_) (fun h5 => ?_)
    · exact absurd h5 (by decide)
    · subst hqe
      refine go_aload_n dX11_keys_8 rfl ?_
      refine go_getR fX11_94 dX11_keys_9 rfl (hR _ _ _ rfl) ?_
      refine go_iload_n dX11_keys_12 rfl ?_
      refine go_callV (as := [_]) wX11_263 dX11_keys_13 rfl rfl rfl rfl (Nat.le_of_ble_eq_true rfl) (ct_X6_fewestKeys hR hK0 hC h2 (fun τ hq => ?_))
      refine go_goto (tgt := 20) dX11_keys_16 (by decide) ?_
      refine go_iret rfl rfl dX11_keys_20 ?_
      have e : keysA X q = obI (mnS (deepB X q) (2 ^ nQ (xs X))) := by unfold keysA; rw [if_pos (by omega), Int.toNat_natCast]
      have h9 := hK τ hq
      rw [e] at h9
      exact h9
  · refine go_if_eq (tgt := 19) dX11_keys_5 (by decide) (fun h5 => ?_) (fun h5 => ?_)
    · refine go_iconst (v := iI (-1)) dX11_keys_19 (by decide) ?_
      refine go_iret rfl rfl dX11_keys_20 ?_
      have e : keysA X n = -1 := by unfold keysA; rw [if_neg (by omega)]
      have h9 := hK σ QF.rf
      rw [e] at h9
      exact h9
    · exact absurd h5 (by decide)

theorem ml21 {l : Launch} {D : va_G} {cA ad : Nat → Nat} {d : Nat} {σ : AS} {K : Option Value → AS → Prop} {X : XS} {B : Bool} {n : Nat} {m : Int32} (hR : RO σ) (hK0 : XK X) (hC : MI σ X) (hn0 : n ≤ 1000) (hK : ∀ τ, DF (xL X) σ τ → K (some (.int (if B = true then iI 1 else iI 0))) τ) : ∀ (r i : Nat) (w : WT) (τ : AS) (n6 : Nat), r + i = n → DF (xL X) σ τ → WM τ 125 w → WK (xs X) w → dy w + r ≤ 20000 → τ.1 125 24 = iI n6 → n6 ≤ 60 → dpF (xs X) (xv X) r w = B → Go l D cA ad (d + 36) mX12_keepsAll 21 [.ref 111, .int (iI n), .int m, .int (iI i)] [] τ K := by
  intro r
  induction r with
  | zero =>
    intro i w τ n6 hr hq hW hw hd hn hn6 hres
    refine go_iload_n dX12_keepsAll_21 rfl ?_
    refine go_iload_n dX12_keepsAll_22 rfl ?_
    refine go_icmp_ge (tgt := 59) dX12_keepsAll_23 (by decide) (fun h23 => ?_) (fun h23 => ?_)
    · refine go_iconst (v := iI 1) dX12_keepsAll_59 (by decide) ?_
      refine go_iret rfl rfl dX12_keepsAll_60 ?_
      have e : true = B := hres
      rw [← e] at hK
      exact hK τ hq
    · exfalso
      rw [iI_le (by omega)] at h23
      omega
  | succ r ih =>
    intro i w τ n6 hr hq hW hw hd hn hn6 hres
    refine go_iload_n dX12_keepsAll_21 rfl ?_
    refine go_iload_n dX12_keepsAll_22 rfl ?_
    refine go_icmp_ge (tgt := 59) dX12_keepsAll_23 (by decide) (fun h23 => ?_) (fun h23 => ?_)
    · exfalso
      rw [iI_le (by omega)] at h23
      omega
    · refine go_aload_n dX12_keepsAll_26 rfl ?_
      refine go_aload_n dX12_keepsAll_27 rfl ?_
      refine go_getR fX12_64 dX12_keepsAll_28 rfl (hq.RO hR _ _ _ rfl) ?_
      refine go_aload_n dX12_keepsAll_31 rfl ?_
      refine go_getR fX12_37 dX12_keepsAll_32 rfl (hq.RO hR _ _ _ rfl) ?_
      refine go_iconst (v := iI 0) dX12_keepsAll_35 (by decide) ?_
      refine go_iald dX12_keepsAll_36 rfl (vp_iI (by decide)) ?_
      rw [cl_0, (hC.q hK0 hq).2.1.2.2.1 0 (by decide)]
      refine go_callV (as := [_, _]) wX12_391 dX12_keepsAll_37 rfl rfl rfl rfl (Nat.le_of_ble_eq_true rfl) (ct_X12_goDay hK0.s rfl (Or.inr rfl) hK0.L ((hC.q hK0 hq).ms (hq.RO hR)) hW hw (by have := hK0.s.2.2.1 0 (by decide); omega) (by omega) hn hn6 (fun ρ r2 n' off fr hM2 hr2 h59 hcs hlr => ?_))
      have hq2 := DF_t (f := r2) (hq.tr (DF.n fr hM2.2.2.2.1 hM2.2.2.2.2))
      have hW2 : WM (sI ρ 125 r2) 125 (dayF (xs X) (hLw (xL X) (xh X)) (skv (xs X) 0) w) := by rw [WM_R, sI_same]; exact hr2
      refine go_aload_n dX12_keepsAll_40 rfl ?_
      refine go_aload_n dX12_keepsAll_41 rfl ?_
      refine go_getR fX12_64 dX12_keepsAll_42 rfl (hq2.RO hR _ _ _ rfl) ?_
      refine go_callV (as := [_]) wX12_360 dX12_keepsAll_45 rfl rfl rfl rfl (Nat.le_of_ble_eq_true rfl) (ct_X12_bareIn (hq2.RO hR) (hC.q hK0 hq2).2.1 hK0.s rfl hW2 (dayF_ok (hv := hLw (xL X) (xh X)) hK0.s hw (hK0.s.2.2.1 0 (by decide)).1 (by omega)).1 ?_)
      refine go_if_eq (tgt := 53) dX12_keepsAll_48 (by decide) (fun h48 => ?_) (fun h48 => ?_)
      · rw [iI_eq0 (by have := bar_512 hK0.s (dayF (xs X) (hLw (xL X) (xh X)) (skv (xs X) 0) w); omega)] at h48
        refine go_iincI dX12_keepsAll_53 rfl (Nat.le_of_ble_eq_true rfl) rfl ?_
        refine go_goto (tgt := 21) dX12_keepsAll_56 (by decide) ?_
        simp only [List.set, iI_add]
        exact ih (i + 1) _ _ (n' + 1) (by omega) hq2 hW2 (dayF_ok (hv := hLw (xL X) (xh X)) hK0.s hw (hK0.s.2.2.1 0 (by decide)).1 (by omega)).1 (by rw [(dayF_ok (hv := hLw (xL X) (xh X)) hK0.s hw (hK0.s.2.2.1 0 (by decide)).1 (by omega)).2.2]; omega) (by rw [sI_same]; exact hlr.1) (by omega) (by rw [← hres]; exact (if_pos (show barF (xs X) (dayF (xs X) (hLw (xL X) (xh X)) (skv (xs X) 0) w) = 0 by omega)).symm)
      · rw [iI_eq0 (by have := bar_512 hK0.s (dayF (xs X) (hLw (xL X) (xh X)) (skv (xs X) 0) w); omega)] at h48
        refine go_iconst (v := iI 0) dX12_keepsAll_51 (by decide) ?_
        refine go_iret rfl rfl dX12_keepsAll_52 ?_
        have e : false = B := by rw [← hres]; exact (if_neg (fun q => h48 (by have q2 : barF (xs X) (dayF (xs X) (hLw (xL X) (xh X)) (skv (xs X) 0) w) = 0 := q; omega))).symm
        rw [← e] at hK
        exact hK _ hq2
theorem ct_X12_keepsAll {l : Launch} {D : va_G} {cA ad : Nat → Nat} {d : Nat} {σ : AS} {K : Option Value → AS → Prop} {X : XS} {n m : Nat} (hR : RO σ) (hK0 : XK X) (hC : MI σ X) (hn : n ≤ 1000) (hm : m < 2 ^ nQ (xs X)) (hK : ∀ τ, DF (xL X) σ τ → K (some (.int (if deepB X n m = true then iI 1 else iI 0))) τ) : Call l D cA ad (d + 36) mX12_keepsAll [.ref 111, .int (iI n), .int (iI m)] σ K := by
  refine call_go (by decide) (Nat.le_of_ble_eq_true rfl) (show Go l D cA ad (d + 36) mX12_keepsAll 0 [.ref 111, .int (iI n), .int (iI m), .null] [] σ K from ?_)
  refine go_aload_n dX12_keepsAll_0 rfl ?_
  refine go_getR fX12_61 dX12_keepsAll_1 rfl (hR _ _ _ rfl) ?_
  refine go_aload_n dX12_keepsAll_4 rfl ?_
  refine go_getR fX12_64 dX12_keepsAll_5 rfl (hR _ _ _ rfl) ?_
  refine go_callS (as := [_, _]) wX12_409 dX12_keepsAll_8 rfl rfl (Nat.le_of_ble_eq_true rfl) (ct_X12_copy (w := xw X) (lg := xl X) rfl rfl (by decide) hC.2.2.1 (fun r hr => ?_))
  refine go_aload_n dX12_keepsAll_11 rfl ?_
  refine go_getR fX12_64 dX12_keepsAll_12 rfl (hR _ _ _ rfl) ?_
  refine go_bipush (v := iI 21) dX12_keepsAll_15 (by decide) ?_
  refine go_iload_n dX12_keepsAll_17 rfl ?_
  refine go_iast dX12_keepsAll_18 rfl (vp_iI (by decide)) ?_
  rw [show (iI 21).toNatClampNeg = 21 by decide, sI_same, sI_sI]
  refine go_iconst (v := iI 0) dX12_keepsAll_19 (by decide) ?_
  refine go_istore_n dX12_keepsAll_20 (Nat.le_of_ble_eq_true rfl) rfl ?_
  simp only [List.set]
  have hl := lgn_le (dy (xw X))
  exact ml21 hR hK0 hC hn hK n 0 (setO (xw X) m) _ (lgn (dy (xw X))) (by omega) (DF_t DF.rf) (by rw [WM_R, sI_same]; exact WR_o hr.1) (setO_ok hK0.w hm) (by have := hK0.d; show dy (xw X) + n ≤ 20000; omega) (by rw [sI_same, upd_ne _ _ _ _ (by decide)]; exact hr.2.1) (by omega) rfl

theorem mk30 {l : Launch} {D : va_G} {cA ad : Nat → Nat} {d : Nat} {σ : AS} {K : Option Value → AS → Prop} {X : XS} {n : Nat} (hR : RO σ) (hK0 : XK X) (hC : MI σ X) (hn : n ≤ 9) (hK : ∀ τ, DF (xL X) σ τ → K (some (.int (iI (obI (mnS (deepB X n) (2 ^ nQ (xs X))))))) τ) : ∀ (r i : Nat) (τ : AS), r + i = 2 ^ nQ (xs X) → DF (xL X) σ τ → Go l D cA ad (d + 37) mX12_keys 30 [.ref 111, .int (iI n), .int (iI (obI (mnS (deepB X n) i))), .int (iI i)] [] τ K := by
  have hQ9 := hK0.s.2.1
  have hpw := pw_lt (nQ (xs X)) (by omega)
  intro r
  induction r with
  | zero =>
    intro i τ hr hq
    refine go_iload_n dX12_keys_30 rfl ?_
    refine go_iconst (v := iI 1) dX12_keys_31 (by decide) ?_
    refine go_aload_n dX12_keys_32 rfl ?_
    refine go_getI fX12_297 dX12_keys_33 rfl ?_
    refine go_ishl dX12_keys_36 ?_
    refine go_icmp_ge (tgt := 73) dX12_keys_37 (by decide) (fun h37 => ?_) (fun h37 => ?_)
    · refine go_iload_n dX12_keys_73 rfl ?_
      refine go_iret rfl rfl dX12_keys_74 ?_
      obtain rfl : i = 2 ^ nQ (xs X) := by omega
      exact hK τ hq
    · exfalso
      rw [(hC.q hK0 hq).2.1.2.1, b_shl9 _ (by omega)] at h37
      generalize 2 ^ nQ (xs X) = N at *
      rw [iI_le (by omega)] at h37
      omega
  | succ r ih =>
    intro i τ hr hq
    refine go_iload_n dX12_keys_30 rfl ?_
    refine go_iconst (v := iI 1) dX12_keys_31 (by decide) ?_
    refine go_aload_n dX12_keys_32 rfl ?_
    refine go_getI fX12_297 dX12_keys_33 rfl ?_
    refine go_ishl dX12_keys_36 ?_
    refine go_icmp_ge (tgt := 73) dX12_keys_37 (by decide) (fun h37 => ?_) (fun h37 => ?_)
    · exfalso
      rw [(hC.q hK0 hq).2.1.2.1, b_shl9 _ (by omega)] at h37
      generalize 2 ^ nQ (xs X) = N at *
      rw [iI_le (by omega)] at h37
      omega
    · have hpc := bc_ok i (by omega)
      have hpl := pop_le i (by omega) (nQ (xs X)) (by omega) (by omega)
      cases hm : mnS (deepB X n) i with
      | none =>
        refine go_iload_n dX12_keys_40 rfl ?_
        refine go_iconst (v := iI (-1)) dX12_keys_41 (by decide) ?_
        refine go_icmp_eq (tgt := 56) dX12_keys_42 (by decide) (fun h42 => ?_) (fun h42 => ?_)
        · refine go_aload_n dX12_keys_56 rfl ?_
          refine go_iload_n dX12_keys_57 rfl ?_
          refine go_iload_n dX12_keys_58 rfl ?_
          refine go_callV (as := [_, _]) wX12_434 dX12_keys_59 rfl rfl rfl rfl (Nat.le_of_ble_eq_true rfl) (ct_X12_keepsAll (hq.RO hR) hK0 (hC.q hK0 hq) (by omega) (by omega) (fun ρ hq2 => ?_))
          cases hB : deepB X n i with
          | false =>
            rw [if_neg (by decide)]
            refine go_if_eq (tgt := 67) dX12_keys_62 (by decide) (fun h62 => ?_) (fun h62 => ?_)
            · refine go_iincI dX12_keys_67 rfl (Nat.le_of_ble_eq_true rfl) rfl ?_
              refine go_goto (tgt := 30) dX12_keys_70 (by decide) ?_
              simp only [List.set, iI_add]
              have h9 := ih (i + 1) ρ (by omega) (hq.tr hq2)
              rw [mnS_b hB, hm] at h9
              exact h9
            · exact absurd h62 (by decide)
          | true =>
            rw [if_pos rfl]
            refine go_if_eq (tgt := 67) dX12_keys_62 (by decide) (fun h62 => ?_) (fun h62 => ?_)
            · exact absurd h62 (by decide)
            · refine go_iload_n dX12_keys_65 rfl ?_
              refine go_istore_n dX12_keys_66 (Nat.le_of_ble_eq_true rfl) rfl ?_
              refine go_iincI dX12_keys_67 rfl (Nat.le_of_ble_eq_true rfl) rfl ?_
              refine go_goto (tgt := 30) dX12_keys_70 (by decide) ?_
              simp only [List.set, iI_add]
              have h9 := ih (i + 1) ρ (by omega) (hq.tr hq2)
              rw [mnS_c (N := nQ (xs X)) (by rw [hm]; unfold fwI; dsimp only; omega) hB] at h9
              exact h9
        · exact absurd h42 (by decide)
      | some b =>
        have hbl := mnS_lt i b hm
        have hpb := bc_ok b (by omega)
        refine go_iload_n dX12_keys_40 rfl ?_
        refine go_iconst (v := iI (-1)) dX12_keys_41 (by decide) ?_
        refine go_icmp_eq (tgt := 56) dX12_keys_42 (by decide) (fun h42 => ?_) (fun h42 => ?_)
        · exfalso
          rw [show obI (some b) = (b : Int) from rfl, iI_eq (by omega)] at h42
          omega
        · refine go_iload_n dX12_keys_45 rfl ?_
          refine go_callS (as := [_]) wX12_429 dX12_keys_46 rfl rfl (Nat.le_of_ble_eq_true rfl) (ct_J6_bitCount_0f7a4 (by omega) ?_)
          refine go_iload_n dX12_keys_49 rfl ?_
          refine go_callS (as := [_]) wX12_429 dX12_keys_50 rfl rfl (Nat.le_of_ble_eq_true rfl) (ct_J6_bitCount_0f7a4 (by omega) ?_)
          refine go_icmp_ge (tgt := 67) dX12_keys_53 (by decide) (fun h53 => ?_) (fun h53 => ?_)
          · rw [iI_le (by omega)] at h53
            refine go_iincI dX12_keys_67 rfl (Nat.le_of_ble_eq_true rfl) rfl ?_
            refine go_goto (tgt := 30) dX12_keys_70 (by decide) ?_
            simp only [List.set, iI_add]
            have h9 := ih (i + 1) τ (by omega) hq
            rw [mnS_a (N := nQ (xs X)) (by rw [hm]; unfold fwI; dsimp only; omega) hpl, hm] at h9
            exact h9
          · rw [iI_le (by omega)] at h53
            refine go_aload_n dX12_keys_56 rfl ?_
            refine go_iload_n dX12_keys_57 rfl ?_
            refine go_iload_n dX12_keys_58 rfl ?_
            refine go_callV (as := [_, _]) wX12_434 dX12_keys_59 rfl rfl rfl rfl (Nat.le_of_ble_eq_true rfl) (ct_X12_keepsAll (hq.RO hR) hK0 (hC.q hK0 hq) (by omega) (by omega) (fun ρ hq2 => ?_))
            cases hB : deepB X n i with
            | false =>
              rw [if_neg (by decide)]
              refine go_if_eq (tgt := 67) dX12_keys_62 (by decide) (fun h62 => ?_) (fun h62 => ?_)
              · refine go_iincI dX12_keys_67 rfl (Nat.le_of_ble_eq_true rfl) rfl ?_
                refine go_goto (tgt := 30) dX12_keys_70 (by decide) ?_
                simp only [List.set, iI_add]
                have h9 := ih (i + 1) ρ (by omega) (hq.tr hq2)
                rw [mnS_b hB, hm] at h9
                exact h9
              · exact absurd h62 (by decide)
            | true =>
              rw [if_pos rfl]
              refine go_if_eq (tgt := 67) dX12_keys_62 (by decide) (fun h62 => ?_) (fun h62 => ?_)
              · exact absurd h62 (by decide)
              · refine go_iload_n dX12_keys_65 rfl ?_
                refine go_istore_n dX12_keys_66 (Nat.le_of_ble_eq_true rfl) rfl ?_
                refine go_iincI dX12_keys_67 rfl (Nat.le_of_ble_eq_true rfl) rfl ?_
                refine go_goto (tgt := 30) dX12_keys_70 (by decide) ?_
                simp only [List.set, iI_add]
                have h9 := ih (i + 1) ρ (by omega) (hq.tr hq2)
                rw [mnS_c (N := nQ (xs X)) (by rw [hm]; unfold fwI; dsimp only; omega) hB] at h9
                exact h9
theorem ct_X12_keys {l : Launch} {D : va_G} {cA ad : Nat → Nat} {d : Nat} {σ : AS} {K : Option Value → AS → Prop} {X : XS} {n : Int} (hR : RO σ) (hK0 : XK X) (hC : MI σ X) (hn32 : -2147483648 ≤ n ∧ n < 2147483648) (hK : ∀ τ, DF (xL X) σ τ → K (some (.int (iI (keysA X n)))) τ) : Call l D cA ad (d + 37) mX12_keys [.ref 111, .int (iI n)] σ K := by
  have hP7 := hK0.s.1
  have hQ9 := hK0.s.2.1
  refine call_go (by decide) (Nat.le_of_ble_eq_true rfl) (show Go l D cA ad (d + 37) mX12_keys 0 [.ref 111, .int (iI n), .null, .null] [] σ K from ?_)
  refine go_aload_n dX12_keys_0 rfl ?_
  refine go_iconst (v := iI 0) dX12_keys_1 (by decide) ?_
  refine go_putI fX12_96 rfl dX12_keys_2 rfl rfl rfl ?_
  have hq : DF (xL X) σ (sI σ 111 (upd (σ.1 111) 0 (iI 0))) := DF_f0 DF.rf
  have hR0 := hq.RO hR
  have hC0 := hC.q hK0 hq
  generalize sI σ 111 (upd (σ.1 111) 0 (iI 0)) = τ at hq hR0 hC0 ⊢
  refine go_aload_n dX12_keys_5 rfl ?_
  refine go_getI fX12_294 dX12_keys_6 rfl ?_
  refine go_if_eq (tgt := 24) dX12_keys_9 (by decide) (fun h9 => ?_) (fun h9 => ?_)
  · rw [hC0.2.1.1, iI_eq0 (by omega)] at h9
    refine go_iconst (v := iI (-1)) dX12_keys_24 (by decide) ?_
    refine go_iret rfl rfl dX12_keys_25 ?_
    have e : keysA X n = -1 := by unfold keysA; rw [if_neg (by omega)]
    have h9 := hK τ hq
    rw [e] at h9
    exact h9
  · rw [hC0.2.1.1, iI_eq0 (by omega)] at h9
    refine go_iload_n dX12_keys_12 rfl ?_
    refine go_i2l dX12_keys_13 ?_
    rw [i2l_iI (by omega)]
    refine go_lconst (v := 1) dX12_keys_14 (by decide) ?_
    refine go_ldc2 lX12_367 dX12_keys_15 ?_
    refine go_callS (as := [_, _, _]) wX12_217 dX12_keys_18 rfl rfl (Nat.le_of_ble_eq_true rfl) (ct_isIn2 (x := 1) (y := 9) (by decide) (by decide) (by omega) (fun hi => ?_) (fun hi => ?_))
    · refine go_if_ne (tgt := 26) dX12_keys_21 (by decide) (fun h21 => ?_) (fun h21 => ?_)
      · obtain ⟨q, rfl⟩ : ∃ q : Nat, n = q := ⟨n.toNat, by omega⟩
        refine go_iconst (v := iI (-1)) dX12_keys_26 (by decide) ?_
        refine go_istore_n dX12_keys_27 (Nat.le_of_ble_eq_true rfl) rfl ?_
        refine go_iconst (v := iI 0) dX12_keys_28 (by decide) ?_
        refine go_istore_n dX12_keys_29 (Nat.le_of_ble_eq_true rfl) rfl ?_
        simp only [List.set]
        have e : keysA X q = obI (mnS (deepB X q) (2 ^ nQ (xs X))) := by unfold keysA; rw [if_pos (by omega), Int.toNat_natCast]
        rw [e] at hK
        exact mk30 hR0 hK0 hC0 (by omega) (fun ρ hq2 => hK ρ (hq.tr hq2)) (2 ^ nQ (xs X)) 0 τ (by omega) DF.rf
      · exact absurd h21 (by decide)
    · refine go_if_ne (tgt := 26) dX12_keys_21 (by decide) (fun h21 => ?_) (fun h21 => ?_)
      · exact absurd h21 (by decide)
      · refine go_iconst (v := iI (-1)) dX12_keys_24 (by decide) ?_
        refine go_iret rfl rfl dX12_keys_25 ?_
        have e : keysA X n = -1 := by unfold keysA; rw [if_neg (by omega)]
        have h9 := hK τ hq
        rw [e] at h9
        exact h9

theorem kk8 {l : Launch} {D : va_G} {cA ad : Nat → Nat} {d : Nat} {σ : AS} {K : Option Value → AS → Prop} {X : XS} {n : Nat} (hR : RO σ) (hK0 : XK X) (hC : CI σ X) (hn : n ≤ 9) (hK : ∀ τ, QF σ τ → K (some (.int (iI ((kpF X n (2 ^ nQ (xs X))).1 : Nat)))) τ) : ∀ (r i : Nat) (τ : AS), r + i = 2 ^ nQ (xs X) → QF σ τ → ∀ v5 v6 : Value, Go l D cA ad (d + 6) mX6_keysThatKeepMost 8 [.ref 105, .int (iI n), .int (iI ((kpF X n i).1 : Nat)), .int (iI ((kpF X n i).2 : Nat)), .int (iI i), v5, v6] [] τ K := by
  have hQ9 := hK0.s.2.1
  have hP7 := hK0.s.1
  have hpw := pw_lt (nQ (xs X)) (by omega)
  intro r
  induction r with
  | zero =>
    intro i τ hr hq v5 v6
    refine go_iload dX6_keysThatKeepMost_8 rfl ?_
    refine go_iconst (v := iI 1) dX6_keysThatKeepMost_10 (by decide) ?_
    refine go_aload_n dX6_keysThatKeepMost_11 rfl ?_
    refine go_getR fX6_22 dX6_keysThatKeepMost_12 rfl (hq.RO hR _ _ _ rfl) ?_
    refine go_getI fX6_98 dX6_keysThatKeepMost_15 rfl ?_
    refine go_ishl dX6_keysThatKeepMost_18 ?_
    refine go_icmp_ge (tgt := 101) dX6_keysThatKeepMost_19 (by decide) (fun h19 => ?_) (fun h19 => ?_)
    · refine go_iload_n dX6_keysThatKeepMost_101 rfl ?_
      refine go_iret rfl rfl dX6_keysThatKeepMost_102 ?_
      obtain rfl : i = 2 ^ nQ (xs X) := by omega
      exact hK τ hq
    · exfalso
      rw [(hC.q hK0 hq).2.1.2.1, b_shl9 _ (by omega)] at h19
      generalize 2 ^ nQ (xs X) = N at *
      rw [iI_le (by omega)] at h19
      omega
  | succ r ih =>
    intro i τ hr hq v5 v6
    refine go_iload dX6_keysThatKeepMost_8 rfl ?_
    refine go_iconst (v := iI 1) dX6_keysThatKeepMost_10 (by decide) ?_
    refine go_aload_n dX6_keysThatKeepMost_11 rfl ?_
    refine go_getR fX6_22 dX6_keysThatKeepMost_12 rfl (hq.RO hR _ _ _ rfl) ?_
    refine go_getI fX6_98 dX6_keysThatKeepMost_15 rfl ?_
    refine go_ishl dX6_keysThatKeepMost_18 ?_
    refine go_icmp_ge (tgt := 101) dX6_keysThatKeepMost_19 (by decide) (fun h19 => ?_) (fun h19 => ?_)
    · exfalso
      rw [(hC.q hK0 hq).2.1.2.1, b_shl9 _ (by omega)] at h19
      generalize 2 ^ nQ (xs X) = N at *
      rw [iI_le (by omega)] at h19
      omega
    · have hok := kpF_ok hK0 n i
      have hpc := bc_ok i (by omega)
      have hpb := bc_ok (kpF X n i).1 (by omega)
      have hbl := bcF_le hK0 n i
      refine go_iload dX6_keysThatKeepMost_22 rfl ?_
      refine go_callS (as := [_]) wX6_101 dX6_keysThatKeepMost_24 rfl rfl (Nat.le_of_ble_eq_true rfl) (ct_J6_bitCount_0f7a4 (by omega) ?_)
      refine go_iload_n dX6_keysThatKeepMost_27 rfl ?_
      refine go_callS (as := [_]) wX6_101 dX6_keysThatKeepMost_28 rfl rfl (Nat.le_of_ble_eq_true rfl) (ct_J6_bitCount_0f7a4 (by omega) ?_)
      refine go_icmp_ge (tgt := 38) dX6_keysThatKeepMost_31 (by decide) (fun h31 => ?_) (fun h31 => ?_)
      · rw [iI_le (by omega)] at h31
        refine go_iconst (v := iI 0) dX6_keysThatKeepMost_38 (by decide) ?_
        refine go_istore dX6_keysThatKeepMost_39 (Nat.le_of_ble_eq_true rfl) rfl ?_
        refine go_iload_n dX6_keysThatKeepMost_41 rfl ?_
        refine go_if_ne (tgt := 53) dX6_keysThatKeepMost_42 (by decide) (fun h42 => ?_) (fun h42 => ?_)
        · rw [iI_eq0 (by omega)] at h42
          refine go_aload_n dX6_keysThatKeepMost_53 rfl ?_
          refine go_getR fX6_22 dX6_keysThatKeepMost_54 rfl (hq.RO hR _ _ _ rfl) ?_
          refine go_aload_n dX6_keysThatKeepMost_57 rfl ?_
          refine go_iload_n dX6_keysThatKeepMost_58 rfl ?_
          refine go_iload dX6_keysThatKeepMost_59 rfl ?_
          refine go_callV (as := [_, _]) wX6_115 dX6_keysThatKeepMost_61 rfl rfl rfl rfl (Nat.le_of_ble_eq_true rfl) (ct_X6_after (n := n) (m := i) (hq.RO hR) hK0 (hC.q hK0 hq) (by omega) (by omega) (fun ρ hq2 hW => ?_))
          refine go_callV (as := [_]) wX6_111 dX6_keysThatKeepMost_64 rfl rfl rfl rfl (Nat.le_of_ble_eq_true rfl) (ct_X9_bareAmong (hq2.RO (hq.RO hR)) ((hC.q hK0 hq).q hK0 hq2).2.1 hK0.s WB_106 hW (aftF_ok hK0 (by omega) (by omega)) ?_)
          refine go_callS (as := [_]) wX6_101 dX6_keysThatKeepMost_67 rfl rfl (Nat.le_of_ble_eq_true rfl) (ct_J6_bitCount_0f7a4 (bar_512 hK0.s _) ?_)
          rw [show pop9 (barF (xs X) (aftF X n i)) = bcF X n i from rfl]
          refine go_istore dX6_keysThatKeepMost_70 (Nat.le_of_ble_eq_true rfl) rfl ?_
          refine go_iload dX6_keysThatKeepMost_72 rfl ?_
          refine go_iload_n dX6_keysThatKeepMost_74 rfl ?_
          refine go_icmp_lt (tgt := 89) dX6_keysThatKeepMost_75 (by decide) (fun h75 => ?_) (fun h75 => ?_)
          · rw [iI_lt (by omega)] at h75
            refine go_iload dX6_keysThatKeepMost_89 rfl ?_
            refine go_istore_n dX6_keysThatKeepMost_91 (Nat.le_of_ble_eq_true rfl) rfl ?_
            refine go_iload dX6_keysThatKeepMost_92 rfl ?_
            refine go_istore_n dX6_keysThatKeepMost_94 (Nat.le_of_ble_eq_true rfl) rfl ?_
            refine go_iincI dX6_keysThatKeepMost_95 rfl (Nat.le_of_ble_eq_true rfl) rfl ?_
            refine go_goto (tgt := 8) dX6_keysThatKeepMost_98 (by decide) ?_
            simp only [List.set, iI_add]
            have h9 := ih (i + 1) ρ (by omega) (hq.tr hq2)
            have e : kpF X n (i + 1) = (i, bcF X n i) := if_pos (by omega)
            rw [e] at h9
            exact h9 _ _
          · rw [iI_lt (by omega)] at h75
            refine go_iload dX6_keysThatKeepMost_78 rfl ?_
            refine go_iload_n dX6_keysThatKeepMost_80 rfl ?_
            refine go_icmp_ne (tgt := 95) dX6_keysThatKeepMost_81 (by decide) (fun h81 => ?_) (fun h81 => ?_)
            · rw [iI_eq (by omega)] at h81
              refine go_iincI dX6_keysThatKeepMost_95 rfl (Nat.le_of_ble_eq_true rfl) rfl ?_
              refine go_goto (tgt := 8) dX6_keysThatKeepMost_98 (by decide) ?_
              simp only [List.set, iI_add]
              have h9 := ih (i + 1) ρ (by omega) (hq.tr hq2)
              have e : kpF X n (i + 1) = kpF X n i := if_neg (by omega)
              rw [e] at h9
              exact h9 _ _
            · rw [iI_eq (by omega)] at h81
              refine go_iload dX6_keysThatKeepMost_84 rfl ?_
              refine go_if_eq (tgt := 95) dX6_keysThatKeepMost_86 (by decide) (fun h86 => ?_) (fun h86 => ?_)
              · refine go_iincI dX6_keysThatKeepMost_95 rfl (Nat.le_of_ble_eq_true rfl) rfl ?_
                refine go_goto (tgt := 8) dX6_keysThatKeepMost_98 (by decide) ?_
                simp only [List.set, iI_add]
                have h9 := ih (i + 1) ρ (by omega) (hq.tr hq2)
                have e : kpF X n (i + 1) = kpF X n i := if_neg (by omega)
                rw [e] at h9
                exact h9 _ _
              · exact absurd h86 (by decide)
        · rw [iI_eq0 (by omega)] at h42
          refine go_iload dX6_keysThatKeepMost_45 rfl ?_
          refine go_if_ne (tgt := 53) dX6_keysThatKeepMost_47 (by decide) (fun h47 => ?_) (fun h47 => ?_)
          · exact absurd h47 (by decide)
          · refine go_goto (tgt := 95) dX6_keysThatKeepMost_50 (by decide) ?_
            refine go_iincI dX6_keysThatKeepMost_95 rfl (Nat.le_of_ble_eq_true rfl) rfl ?_
            refine go_goto (tgt := 8) dX6_keysThatKeepMost_98 (by decide) ?_
            simp only [List.set, iI_add]
            have h9 := ih (i + 1) τ (by omega) hq
            have e : kpF X n (i + 1) = kpF X n i := if_neg (by omega)
            rw [e] at h9
            exact h9 _ _
      · rw [iI_le (by omega)] at h31
        refine go_iconst (v := iI 1) dX6_keysThatKeepMost_34 (by decide) ?_
        refine go_goto (tgt := 39) dX6_keysThatKeepMost_35 (by decide) ?_
        refine go_istore dX6_keysThatKeepMost_39 (Nat.le_of_ble_eq_true rfl) rfl ?_
        refine go_iload_n dX6_keysThatKeepMost_41 rfl ?_
        refine go_if_ne (tgt := 53) dX6_keysThatKeepMost_42 (by decide) (fun h42 => ?_) (fun h42 => ?_)
        · rw [iI_eq0 (by omega)] at h42
          refine go_aload_n dX6_keysThatKeepMost_53 rfl ?_
          refine go_getR fX6_22 dX6_keysThatKeepMost_54 rfl (hq.RO hR _ _ _ rfl) ?_
          refine go_aload_n dX6_keysThatKeepMost_57 rfl ?_
          refine go_iload_n dX6_keysThatKeepMost_58 rfl ?_
          refine go_iload dX6_keysThatKeepMost_59 rfl ?_
          refine go_callV (as := [_, _]) wX6_115 dX6_keysThatKeepMost_61 rfl rfl rfl rfl (Nat.le_of_ble_eq_true rfl) (ct_X6_after (n := n) (m := i) (hq.RO hR) hK0 (hC.q hK0 hq) (by omega) (by omega) (fun ρ hq2 hW => ?_))
          refine go_callV (as := [_]) wX6_111 dX6_keysThatKeepMost_64 rfl rfl rfl rfl (Nat.le_of_ble_eq_true rfl) (ct_X9_bareAmong (hq2.RO (hq.RO hR)) ((hC.q hK0 hq).q hK0 hq2).2.1 hK0.s WB_106 hW (aftF_ok hK0 (by omega) (by omega)) ?_)
          refine go_callS (as := [_]) wX6_101 dX6_keysThatKeepMost_67 rfl rfl (Nat.le_of_ble_eq_true rfl) (ct_J6_bitCount_0f7a4 (bar_512 hK0.s _) ?_)
          rw [show pop9 (barF (xs X) (aftF X n i)) = bcF X n i from rfl]
          refine go_istore dX6_keysThatKeepMost_70 (Nat.le_of_ble_eq_true rfl) rfl ?_
          refine go_iload dX6_keysThatKeepMost_72 rfl ?_
          refine go_iload_n dX6_keysThatKeepMost_74 rfl ?_
          refine go_icmp_lt (tgt := 89) dX6_keysThatKeepMost_75 (by decide) (fun h75 => ?_) (fun h75 => ?_)
          · rw [iI_lt (by omega)] at h75
            refine go_iload dX6_keysThatKeepMost_89 rfl ?_
            refine go_istore_n dX6_keysThatKeepMost_91 (Nat.le_of_ble_eq_true rfl) rfl ?_
            refine go_iload dX6_keysThatKeepMost_92 rfl ?_
            refine go_istore_n dX6_keysThatKeepMost_94 (Nat.le_of_ble_eq_true rfl) rfl ?_
            refine go_iincI dX6_keysThatKeepMost_95 rfl (Nat.le_of_ble_eq_true rfl) rfl ?_
            refine go_goto (tgt := 8) dX6_keysThatKeepMost_98 (by decide) ?_
            simp only [List.set, iI_add]
            have h9 := ih (i + 1) ρ (by omega) (hq.tr hq2)
            have e : kpF X n (i + 1) = (i, bcF X n i) := if_pos (by omega)
            rw [e] at h9
            exact h9 _ _
          · rw [iI_lt (by omega)] at h75
            refine go_iload dX6_keysThatKeepMost_78 rfl ?_
            refine go_iload_n dX6_keysThatKeepMost_80 rfl ?_
            refine go_icmp_ne (tgt := 95) dX6_keysThatKeepMost_81 (by decide) (fun h81 => ?_) (fun h81 => ?_)
            · rw [iI_eq (by omega)] at h81
              refine go_iincI dX6_keysThatKeepMost_95 rfl (Nat.le_of_ble_eq_true rfl) rfl ?_
              refine go_goto (tgt := 8) dX6_keysThatKeepMost_98 (by decide) ?_
              simp only [List.set, iI_add]
              have h9 := ih (i + 1) ρ (by omega) (hq.tr hq2)
              have e : kpF X n (i + 1) = kpF X n i := if_neg (by omega)
              rw [e] at h9
              exact h9 _ _
            · rw [iI_eq (by omega)] at h81
              refine go_iload dX6_keysThatKeepMost_84 rfl ?_
              refine go_if_eq (tgt := 95) dX6_keysThatKeepMost_86 (by decide) (fun h86 => ?_) (fun h86 => ?_)
              · exact absurd h86 (by decide)
              · refine go_iload dX6_keysThatKeepMost_89 rfl ?_
                refine go_istore_n dX6_keysThatKeepMost_91 (Nat.le_of_ble_eq_true rfl) rfl ?_
                refine go_iload dX6_keysThatKeepMost_92 rfl ?_
                refine go_istore_n dX6_keysThatKeepMost_94 (Nat.le_of_ble_eq_true rfl) rfl ?_
                refine go_iincI dX6_keysThatKeepMost_95 rfl (Nat.le_of_ble_eq_true rfl) rfl ?_
                refine go_goto (tgt := 8) dX6_keysThatKeepMost_98 (by decide) ?_
                simp only [List.set, iI_add]
                have h9 := ih (i + 1) ρ (by omega) (hq.tr hq2)
                have e : kpF X n (i + 1) = (i, bcF X n i) := if_pos (by omega)
                rw [e] at h9
                exact h9 _ _
        · rw [iI_eq0 (by omega)] at h42
          refine go_iload dX6_keysThatKeepMost_45 rfl ?_
          refine go_if_ne (tgt := 53) dX6_keysThatKeepMost_47 (by decide) (fun h47 => ?_) (fun h47 => ?_)
          · refine go_aload_n dX6_keysThatKeepMost_53 rfl ?_
            refine go_getR fX6_22 dX6_keysThatKeepMost_54 rfl (hq.RO hR _ _ _ rfl) ?_
            refine go_aload_n dX6_keysThatKeepMost_57 rfl ?_
            refine go_iload_n dX6_keysThatKeepMost_58 rfl ?_
            refine go_iload dX6_keysThatKeepMost_59 rfl ?_
            refine go_callV (as := [_, _]) wX6_115 dX6_keysThatKeepMost_61 rfl rfl rfl rfl (Nat.le_of_ble_eq_true rfl) (ct_X6_after (n := n) (m := i) (hq.RO hR) hK0 (hC.q hK0 hq) (by omega) (by omega) (fun ρ hq2 hW => ?_))
            refine go_callV (as := [_]) wX6_111 dX6_keysThatKeepMost_64 rfl rfl rfl rfl (Nat.le_of_ble_eq_true rfl) (ct_X9_bareAmong (hq2.RO (hq.RO hR)) ((hC.q hK0 hq).q hK0 hq2).2.1 hK0.s WB_106 hW (aftF_ok hK0 (by omega) (by omega)) ?_)
            refine go_callS (as := [_]) wX6_101 dX6_keysThatKeepMost_67 rfl rfl (Nat.le_of_ble_eq_true rfl) (ct_J6_bitCount_0f7a4 (bar_512 hK0.s _) ?_)
            rw [show pop9 (barF (xs X) (aftF X n i)) = bcF X n i from rfl]
            refine go_istore dX6_keysThatKeepMost_70 (Nat.le_of_ble_eq_true rfl) rfl ?_
            refine go_iload dX6_keysThatKeepMost_72 rfl ?_
            refine go_iload_n dX6_keysThatKeepMost_74 rfl ?_
            refine go_icmp_lt (tgt := 89) dX6_keysThatKeepMost_75 (by decide) (fun h75 => ?_) (fun h75 => ?_)
            · rw [iI_lt (by omega)] at h75
              refine go_iload dX6_keysThatKeepMost_89 rfl ?_
              refine go_istore_n dX6_keysThatKeepMost_91 (Nat.le_of_ble_eq_true rfl) rfl ?_
              refine go_iload dX6_keysThatKeepMost_92 rfl ?_
              refine go_istore_n dX6_keysThatKeepMost_94 (Nat.le_of_ble_eq_true rfl) rfl ?_
              refine go_iincI dX6_keysThatKeepMost_95 rfl (Nat.le_of_ble_eq_true rfl) rfl ?_
              refine go_goto (tgt := 8) dX6_keysThatKeepMost_98 (by decide) ?_
              simp only [List.set, iI_add]
              have h9 := ih (i + 1) ρ (by omega) (hq.tr hq2)
              have e : kpF X n (i + 1) = (i, bcF X n i) := if_pos (by omega)
              rw [e] at h9
              exact h9 _ _
            · rw [iI_lt (by omega)] at h75
              refine go_iload dX6_keysThatKeepMost_78 rfl ?_
              refine go_iload_n dX6_keysThatKeepMost_80 rfl ?_
              refine go_icmp_ne (tgt := 95) dX6_keysThatKeepMost_81 (by decide) (fun h81 => ?_) (fun h81 => ?_)
              · rw [iI_eq (by omega)] at h81
                refine go_iincI dX6_keysThatKeepMost_95 rfl (Nat.le_of_ble_eq_true rfl) rfl ?_
                refine go_goto (tgt := 8) dX6_keysThatKeepMost_98 (by decide) ?_
                simp only [List.set, iI_add]
                have h9 := ih (i + 1) ρ (by omega) (hq.tr hq2)
                have e : kpF X n (i + 1) = kpF X n i := if_neg (by omega)
                rw [e] at h9
                exact h9 _ _
              · rw [iI_eq (by omega)] at h81
                refine go_iload dX6_keysThatKeepMost_84 rfl ?_
                refine go_if_eq (tgt := 95) dX6_keysThatKeepMost_86 (by decide) (fun h86 => ?_) (fun h86 => ?_)
                · exact absurd h86 (by decide)
                · refine go_iload dX6_keysThatKeepMost_89 rfl ?_
                  refine go_istore_n dX6_keysThatKeepMost_91 (Nat.le_of_ble_eq_true rfl) rfl ?_
                  refine go_iload dX6_keysThatKeepMost_92 rfl ?_
                  refine go_istore_n dX6_keysThatKeepMost_94 (Nat.le_of_ble_eq_true rfl) rfl ?_
                  refine go_iincI dX6_keysThatKeepMost_95 rfl (Nat.le_of_ble_eq_true rfl) rfl ?_
                  refine go_goto (tgt := 8) dX6_keysThatKeepMost_98 (by decide) ?_
                  simp only [List.set, iI_add]
                  have h9 := ih (i + 1) ρ (by omega) (hq.tr hq2)
                  have e : kpF X n (i + 1) = (i, bcF X n i) := if_pos (by omega)
                  rw [e] at h9
                  exact h9 _ _
          · exact absurd h47 (by decide)
theorem ct_X6_keysThatKeepMost {l : Launch} {D : va_G} {cA ad : Nat → Nat} {d : Nat} {σ : AS} {K : Option Value → AS → Prop} {X : XS} {n : Nat} (hR : RO σ) (hK0 : XK X) (hC : CI σ X) (hn : n ≤ 9) (hK : ∀ τ, QF σ τ → K (some (.int (iI ((kpF X n (2 ^ nQ (xs X))).1 : Nat)))) τ) : Call l D cA ad (d + 6) mX6_keysThatKeepMost [.ref 105, .int (iI n)] σ K := by
  refine call_go (by decide) (Nat.le_of_ble_eq_true rfl) (show Go l D cA ad (d + 6) mX6_keysThatKeepMost 0 [.ref 105, .int (iI n), .null, .null, .null, .null, .null] [] σ K from ?_)
  refine go_iconst (v := iI 0) dX6_keysThatKeepMost_0 (by decide) ?_
  refine go_istore_n dX6_keysThatKeepMost_1 (Nat.le_of_ble_eq_true rfl) rfl ?_
  refine go_bipush (v := iI 8) dX6_keysThatKeepMost_2 (by decide) ?_
  refine go_istore_n dX6_keysThatKeepMost_4 (Nat.le_of_ble_eq_true rfl) rfl ?_
  refine go_iconst (v := iI 0) dX6_keysThatKeepMost_5 (by decide) ?_
  refine go_istore dX6_keysThatKeepMost_6 (Nat.le_of_ble_eq_true rfl) rfl ?_
  exact kk8 hR hK0 hC hn hK (2 ^ nQ (xs X)) 0 σ (by omega) QF.rf _ _

theorem ct_X11_kept {l : Launch} {D : va_G} {cA ad : Nat → Nat} {d : Nat} {σ : AS} {K : Option Value → AS → Prop} {X : XS} {n v : Int} (hR : RO σ) (hK0 : XK X) (hC : CI σ X) (hn32 : -2147483648 ≤ n ∧ n < 2147483648) (hv32 : -2147483648 ≤ v ∧ v < 2147483648) (hK : ∀ τ, QF σ τ → K (some (.int (iI (keptA X n v)))) τ) : Call l D cA ad (d + 7) mX11_kept [.ref 0, .int (iI n), .int (iI v)] σ K := by
  have hP7 := hK0.s.1
  have hQ9 := hK0.s.2.1
  refine call_go (by decide) (Nat.le_of_ble_eq_true rfl) (show Go l D cA ad (d + 7) mX11_kept 0 [.ref 0, .int (iI n), .int (iI v), .null] [] σ K from ?_)
  refine go_aload_n dX11_kept_0 rfl ?_
  refine go_iload_n dX11_kept_1 rfl ?_
  refine go_callV (as := [_]) wX11_260 dX11_kept_2 rfl rfl rfl rfl (Nat.le_of_ble_eq_true rfl) (ct_X11_isPlannable hR hC.2.1 hK0.s hn32 (fun q hqe h0 h1 h2 => ?_) (fun hx => ?_))
  · refine go_if_eq (tgt := 17) dX11_kept_5 (by decide) (fun h5 => ?_) (fun h5 => ?_)
    · exact absurd h5 (by decide)
    · refine go_iload_n dX11_kept_8 rfl ?_
      refine go_if_lt (tgt := 17) dX11_kept_9 (by decide) (fun h9 => ?_) (fun h9 => ?_)
      · rw [iI_lt0 (by omega)] at h9
        refine go_iconst (v := iI (-1)) dX11_kept_17 (by decide) ?_
        refine go_iret rfl rfl dX11_kept_18 ?_
        have e : keptA X n v = -1 := by unfold keptA; rw [if_neg (by omega)]
        have h99 := hK σ QF.rf
        rw [e] at h99
        exact h99
      · rw [iI_lt0 (by omega)] at h9
        refine go_iload_n dX11_kept_12 rfl ?_
        refine go_iconst (v := iI 1) dX11_kept_13 (by decide) ?_
        refine go_icmp_le (tgt := 19) dX11_kept_14 (by decide) (fun h14 => ?_) (fun h14 => ?_)
        · rw [iI_le (by omega)] at h14
          subst hqe
          refine go_aload_n dX11_kept_19 rfl ?_
          refine go_getR fX11_94 dX11_kept_20 rfl (hR _ _ _ rfl) ?_
          refine go_iload_n dX11_kept_23 rfl ?_
          refine go_callV (as := [_]) wX11_266 dX11_kept_24 rfl rfl rfl rfl (Nat.le_of_ble_eq_true rfl) (ct_X6_keysThatKeepMost hR hK0 hC h2 (fun τ hq => ?_))
          refine go_istore_n dX11_kept_27 (Nat.le_of_ble_eq_true rfl) rfl ?_
          have hlt := ((kpF_ok hK0 q (2 ^ nQ (xs X))).2.2 (Nat.pow_pos (by decide))).1
          have heq := ((kpF_ok hK0 q (2 ^ nQ (xs X))).2.2 (Nat.pow_pos (by decide))).2
          refine go_iload_n dX11_kept_28 rfl ?_
          refine go_iconst (v := iI 1) dX11_kept_29 (by decide) ?_
          refine go_icmp_ne (tgt := 35) dX11_kept_30 (by decide) (fun h30 => ?_) (fun h30 => ?_)
          · rw [iI_eq (by omega)] at h30
            refine go_aload_n dX11_kept_35 rfl ?_
            refine go_getR fX11_19 dX11_kept_36 rfl (hq.RO hR _ _ _ rfl) ?_
            refine go_getI fX11_269 dX11_kept_39 rfl ?_
            rw [(hC.q hK0 hq).2.1.1]
            refine go_aload_n dX11_kept_42 rfl ?_
            refine go_getR fX11_19 dX11_kept_43 rfl (hq.RO hR _ _ _ rfl) ?_
            refine go_aload_n dX11_kept_46 rfl ?_
            refine go_getR fX11_94 dX11_kept_47 rfl (hq.RO hR _ _ _ rfl) ?_
            refine go_iload_n dX11_kept_50 rfl ?_
            refine go_iload_n dX11_kept_51 rfl ?_
            refine go_callV (as := [_, _]) wX11_253 dX11_kept_52 rfl rfl rfl rfl (Nat.le_of_ble_eq_true rfl) (ct_X6_after (n := q) (m := (kpF X q (2 ^ nQ (xs X))).1) (hq.RO hR) hK0 (hC.q hK0 hq) (by omega) hlt (fun ρ hq2 hW => ?_))
            refine go_callV (as := [_]) wX11_237 dX11_kept_55 rfl rfl rfl rfl (Nat.le_of_ble_eq_true rfl) (ct_X9_bareAmong (hq2.RO (hq.RO hR)) ((hC.q hK0 hq).q hK0 hq2).2.1 hK0.s WB_106 hW (aftF_ok hK0 (by omega) hlt) ?_)
            refine go_callS (as := [_]) wX11_272 dX11_kept_58 rfl rfl (Nat.le_of_ble_eq_true rfl) (ct_J6_bitCount_0f7a4 (bar_512 hK0.s _) ?_)
            rw [show pop9 (barF (xs X) (aftF X q (kpF X q (2 ^ nQ (xs X))).1)) = (kpF X q (2 ^ nQ (xs X))).2 from heq.symm]
            refine go_isub dX11_kept_61 ?_
            rw [iI_sub]
            refine go_iret rfl rfl dX11_kept_62 ?_
            have e : keptA X q v = (nP (xs X) : Int) - (kpF X q (2 ^ nQ (xs X))).2 := by unfold keptA; rw [if_pos (by omega), if_neg (by omega), Int.toNat_natCast]
            have h99 := hK ρ (hq.tr hq2)
            rw [e] at h99
            exact h99
          · rw [iI_eq (by omega)] at h30
            refine go_iload_n dX11_kept_33 rfl ?_
            refine go_iret rfl rfl dX11_kept_34 ?_
            have e : keptA X q v = ((kpF X q (2 ^ nQ (xs X))).1 : Int) := by unfold keptA; rw [if_pos (by omega), if_pos h30, Int.toNat_natCast]
            have h99 := hK τ hq
            rw [e] at h99
            exact h99
        · rw [iI_le (by omega)] at h14
          refine go_iconst (v := iI (-1)) dX11_kept_17 (by decide) ?_
          refine go_iret rfl rfl dX11_kept_18 ?_
          have e : keptA X n v = -1 := by unfold keptA; rw [if_neg (by omega)]
          have h99 := hK σ QF.rf
          rw [e] at h99
          exact h99
  · refine go_if_eq (tgt := 17) dX11_kept_5 (by decide) (fun h5 => ?_) (fun h5 => ?_)
    · refine go_iconst (v := iI (-1)) dX11_kept_17 (by decide) ?_
      refine go_iret rfl rfl dX11_kept_18 ?_
      have e : keptA X n v = -1 := by unfold keptA; rw [if_neg (by omega)]
      have h99 := hK σ QF.rf
      rw [e] at h99
      exact h99
    · exact absurd h5 (by decide)

theorem mt44 {l : Launch} {D : va_G} {cA ad : Nat → Nat} {d : Nat} {σ : AS} {K : Option Value → AS → Prop} {X : XS} {n : Nat} {v : Int} (hR : RO σ) (hK0 : XK X) (hC : MI σ X) (hn : n ≤ 9) (hv : 0 ≤ v ∧ v ≤ 1) (hK : ∀ τ, DF (xL X) σ τ → K (some (.int (iI (if v = 1 then ((kpF X n (2 ^ nQ (xs X))).1 : Int) else (nP (xs X) : Int) - (kpF X n (2 ^ nQ (xs X))).2)))) τ) : ∀ (r i : Nat) (τ : AS), r + i = 2 ^ nQ (xs X) → DF (xL X) σ τ → ∀ v6 : Value, Go l D cA ad (d + 37) mX12_kept 44 [.ref 111, .int (iI n), .int (iI v), .int (iI (kbI (nP (xs X)) i (kpF X n i)).1), .int (iI (kbI (nP (xs X)) i (kpF X n i)).2), .int (iI i), v6] [] τ K := by
  have hQ9 := hK0.s.2.1
  have hP7 := hK0.s.1
  have hpw := pw_lt (nQ (xs X)) (by omega)
  have hp0 : 0 < 2 ^ nQ (xs X) := Nat.pow_pos (by decide)
  intro r
  induction r with
  | zero =>
    intro i τ hr hq v6
    refine go_iload dX12_kept_44 rfl ?_
    refine go_iconst (v := iI 1) dX12_kept_46 (by decide) ?_
    refine go_aload_n dX12_kept_47 rfl ?_
    refine go_getI fX12_297 dX12_kept_48 rfl ?_
    refine go_ishl dX12_kept_51 ?_
    refine go_icmp_ge (tgt := 127) dX12_kept_52 (by decide) (fun h52 => ?_) (fun h52 => ?_)
    · refine go_iload_n dX12_kept_127 rfl ?_
      refine go_if_ne (tgt := 136) dX12_kept_128 (by decide) (fun h128 => ?_) (fun h128 => ?_)
      · rw [iI_eq0 (by omega)] at h128
        refine go_iload_n dX12_kept_136 rfl ?_
        refine go_iret rfl rfl dX12_kept_137 ?_
        obtain rfl : i = 2 ^ nQ (xs X) := by omega
        have hpos : 2 ^ nQ (xs X) ≠ 0 := by omega
        have h9 := hK τ hq
        rw [if_pos (by omega)] at h9
        unfold kbI
        rw [if_neg hpos]
        exact h9
      · rw [iI_eq0 (by omega)] at h128
        refine go_iload dX12_kept_131 rfl ?_
        refine go_goto (tgt := 137) dX12_kept_133 (by decide) ?_
        refine go_iret rfl rfl dX12_kept_137 ?_
        obtain rfl : i = 2 ^ nQ (xs X) := by omega
        have hpos : 2 ^ nQ (xs X) ≠ 0 := by omega
        have h9 := hK τ hq
        rw [if_neg (by omega)] at h9
        unfold kbI
        rw [if_neg hpos]
        exact h9
    · exfalso
      rw [(hC.q hK0 hq).2.1.2.1, b_shl9 _ (by omega)] at h52
      generalize 2 ^ nQ (xs X) = N at *
      rw [iI_le (by omega)] at h52
      omega
  | succ r ih =>
    intro i τ hr hq v6
    refine go_iload dX12_kept_44 rfl ?_
    refine go_iconst (v := iI 1) dX12_kept_46 (by decide) ?_
    refine go_aload_n dX12_kept_47 rfl ?_
    refine go_getI fX12_297 dX12_kept_48 rfl ?_
    refine go_ishl dX12_kept_51 ?_
    refine go_icmp_ge (tgt := 127) dX12_kept_52 (by decide) (fun h52 => ?_) (fun h52 => ?_)
    · exfalso
      rw [(hC.q hK0 hq).2.1.2.1, b_shl9 _ (by omega)] at h52
      generalize 2 ^ nQ (xs X) = N at *
      rw [iI_le (by omega)] at h52
      omega
    · refine go_aload_n dX12_kept_55 rfl ?_
      refine go_iload_n dX12_kept_56 rfl ?_
      refine go_iload dX12_kept_57 rfl ?_
      refine go_callV (as := [_, _]) wX12_425 dX12_kept_59 rfl rfl rfl rfl (Nat.le_of_ble_eq_true rfl) (ct_X12_lay (n := n) (m := i) (hq.RO hR) hK0 (hC.q hK0 hq) (by omega) (by omega) (fun ρ hq2 hW => ?_))
      refine go_aload_n dX12_kept_62 rfl ?_
      refine go_getI fX12_294 dX12_kept_63 rfl ?_
      rw [((hC.q hK0 hq).q hK0 hq2).2.1.1]
      refine go_aload_n dX12_kept_66 rfl ?_
      refine go_aload_n dX12_kept_67 rfl ?_
      refine go_getR fX12_64 dX12_kept_68 rfl (hq2.RO (hq.RO hR) _ _ _ rfl) ?_
      refine go_callV (as := [_]) wX12_360 dX12_kept_71 rfl rfl rfl rfl (Nat.le_of_ble_eq_true rfl) (ct_X12_bareIn (hq2.RO (hq.RO hR)) ((hC.q hK0 hq).q hK0 hq2).2.1 hK0.s rfl hW (aftF_ok hK0 (by omega) (by omega)) ?_)
      refine go_callS (as := [_]) wX12_429 dX12_kept_74 rfl rfl (Nat.le_of_ble_eq_true rfl) (ct_J6_bitCount_0f7a4 (bar_512 hK0.s _) ?_)
      rw [show pop9 (barF (xs X) (aftF X n i)) = bcF X n i from rfl]
      refine go_isub dX12_kept_77 ?_
      rw [iI_sub]
      have hok := kpF_ok hK0 n i
      have hpc := bc_ok i (by omega)
      have hpb := bc_ok (kpF X n i).1 (by omega)
      have hbl := bcF_le hK0 n i
      refine go_istore dX12_kept_78 (Nat.le_of_ble_eq_true rfl) rfl ?_
      by_cases hi0 : i = 0
      · subst hi0
        rw [show kbI (nP (xs X)) 0 (kpF X n 0) = (-1, 0) from if_pos rfl]
        refine go_iload_n dX12_kept_80 rfl ?_
        refine go_iconst (v := iI (-1)) dX12_kept_81 (by decide) ?_
        refine go_icmp_eq (tgt := 114) dX12_kept_82 (by decide) (fun h82 => ?_) (fun h82 => ?_)
        · refine go_iload dX12_kept_114 rfl ?_
          refine go_istore_n dX12_kept_116 (Nat.le_of_ble_eq_true rfl) rfl ?_
          refine go_iload dX12_kept_117 rfl ?_
          refine go_istore dX12_kept_119 (Nat.le_of_ble_eq_true rfl) rfl ?_
          refine go_iincI dX12_kept_121 rfl (Nat.le_of_ble_eq_true rfl) rfl ?_
          refine go_goto (tgt := 44) dX12_kept_124 (by decide) ?_
          simp only [List.set, iI_add]
          have h9 := ih (0 + 1) ρ (by omega) (hq.tr hq2)
          have e : kpF X n (0 + 1) = (0, bcF X n 0) := if_pos (Or.inl (show bcF X n 0 < 8 by omega))
          rw [e, show kbI (nP (xs X)) (0 + 1) (0, bcF X n 0) = (((0 : Nat) : Int), (nP (xs X) : Int) - bcF X n 0) from if_neg (by omega)] at h9
          exact h9 _
        · exact absurd h82 (by decide)
      · rw [show kbI (nP (xs X)) i (kpF X n i) = (((kpF X n i).1 : Int), (nP (xs X) : Int) - (kpF X n i).2) from if_neg hi0]
        refine go_iload_n dX12_kept_80 rfl ?_
        refine go_iconst (v := iI (-1)) dX12_kept_81 (by decide) ?_
        refine go_icmp_eq (tgt := 114) dX12_kept_82 (by decide) (fun h82 => ?_) (fun h82 => ?_)
        · exfalso
          rw [iI_eq (by omega)] at h82
          omega
        · refine go_iload dX12_kept_85 rfl ?_
          refine go_iload dX12_kept_87 rfl ?_
          refine go_icmp_lt (tgt := 121) dX12_kept_89 (by decide) (fun h89 => ?_) (fun h89 => ?_)
          · rw [iI_lt (by omega)] at h89
            refine go_iincI dX12_kept_121 rfl (Nat.le_of_ble_eq_true rfl) rfl ?_
            refine go_goto (tgt := 44) dX12_kept_124 (by decide) ?_
            simp only [List.set, iI_add]
            have h9 := ih (i + 1) ρ (by omega) (hq.tr hq2)
            have e : kpF X n (i + 1) = kpF X n i := if_neg (by omega)
            rw [e, show kbI (nP (xs X)) (i + 1) (kpF X n i) = (((kpF X n i).1 : Int), (nP (xs X) : Int) - (kpF X n i).2) from if_neg (by omega)] at h9
            exact h9 _
          · rw [iI_lt (by omega)] at h89
            refine go_iload dX12_kept_92 rfl ?_
            refine go_iload dX12_kept_94 rfl ?_
            refine go_icmp_ne (tgt := 114) dX12_kept_96 (by decide) (fun h96 => ?_) (fun h96 => ?_)
            · rw [iI_eq (by omega)] at h96
              refine go_iload dX12_kept_114 rfl ?_
              refine go_istore_n dX12_kept_116 (Nat.le_of_ble_eq_true rfl) rfl ?_
              refine go_iload dX12_kept_117 rfl ?_
              refine go_istore dX12_kept_119 (Nat.le_of_ble_eq_true rfl) rfl ?_
              refine go_iincI dX12_kept_121 rfl (Nat.le_of_ble_eq_true rfl) rfl ?_
              refine go_goto (tgt := 44) dX12_kept_124 (by decide) ?_
              simp only [List.set, iI_add]
              have h9 := ih (i + 1) ρ (by omega) (hq.tr hq2)
              have e : kpF X n (i + 1) = (i, bcF X n i) := if_pos (by omega)
              rw [e, show kbI (nP (xs X)) (i + 1) (i, bcF X n i) = ((i : Int), (nP (xs X) : Int) - bcF X n i) from if_neg (by omega)] at h9
              exact h9 _
            · rw [iI_eq (by omega)] at h96
              refine go_iload dX12_kept_99 rfl ?_
              refine go_callS (as := [_]) wX12_429 dX12_kept_101 rfl rfl (Nat.le_of_ble_eq_true rfl) (ct_J6_bitCount_0f7a4 (by omega) ?_)
              refine go_iload_n dX12_kept_104 rfl ?_
              refine go_callS (as := [_]) wX12_429 dX12_kept_105 rfl rfl (Nat.le_of_ble_eq_true rfl) (ct_J6_bitCount_0f7a4 (by omega) ?_)
              refine go_icmp_lt (tgt := 114) dX12_kept_108 (by decide) (fun h108 => ?_) (fun h108 => ?_)
              · rw [iI_lt (by omega)] at h108
                refine go_iload dX12_kept_114 rfl ?_
                refine go_istore_n dX12_kept_116 (Nat.le_of_ble_eq_true rfl) rfl ?_
                refine go_iload dX12_kept_117 rfl ?_
                refine go_istore dX12_kept_119 (Nat.le_of_ble_eq_true rfl) rfl ?_
                refine go_iincI dX12_kept_121 rfl (Nat.le_of_ble_eq_true rfl) rfl ?_
                refine go_goto (tgt := 44) dX12_kept_124 (by decide) ?_
                simp only [List.set, iI_add]
                have h9 := ih (i + 1) ρ (by omega) (hq.tr hq2)
                have e : kpF X n (i + 1) = (i, bcF X n i) := if_pos (by omega)
                rw [e, show kbI (nP (xs X)) (i + 1) (i, bcF X n i) = ((i : Int), (nP (xs X) : Int) - bcF X n i) from if_neg (by omega)] at h9
                exact h9 _
              · rw [iI_lt (by omega)] at h108
                refine go_goto (tgt := 121) dX12_kept_111 (by decide) ?_
                refine go_iincI dX12_kept_121 rfl (Nat.le_of_ble_eq_true rfl) rfl ?_
                refine go_goto (tgt := 44) dX12_kept_124 (by decide) ?_
                simp only [List.set, iI_add]
                have h9 := ih (i + 1) ρ (by omega) (hq.tr hq2)
                have e : kpF X n (i + 1) = kpF X n i := if_neg (by omega)
                rw [e, show kbI (nP (xs X)) (i + 1) (kpF X n i) = (((kpF X n i).1 : Int), (nP (xs X) : Int) - (kpF X n i).2) from if_neg (by omega)] at h9
                exact h9 _
theorem ct_X12_kept {l : Launch} {D : va_G} {cA ad : Nat → Nat} {d : Nat} {σ : AS} {K : Option Value → AS → Prop} {X : XS} {n v : Int} (hR : RO σ) (hK0 : XK X) (hC : MI σ X) (hn32 : -2147483648 ≤ n ∧ n < 2147483648) (hv32 : -2147483648 ≤ v ∧ v < 2147483648) (hK : ∀ τ, DF (xL X) σ τ → K (some (.int (iI (keptA X n v)))) τ) : Call l D cA ad (d + 37) mX12_kept [.ref 111, .int (iI n), .int (iI v)] σ K := by
  have hP7 := hK0.s.1
  have hQ9 := hK0.s.2.1
  refine call_go (by decide) (Nat.le_of_ble_eq_true rfl) (show Go l D cA ad (d + 37) mX12_kept 0 [.ref 111, .int (iI n), .int (iI v), .null, .null, .null, .null] [] σ K from ?_)
  refine go_aload_n dX12_kept_0 rfl ?_
  refine go_iconst (v := iI 0) dX12_kept_1 (by decide) ?_
  refine go_putI fX12_96 rfl dX12_kept_2 rfl rfl rfl ?_
  have hq : DF (xL X) σ (sI σ 111 (upd (σ.1 111) 0 (iI 0))) := DF_f0 DF.rf
  have hR0 := hq.RO hR
  have hC0 := hC.q hK0 hq
  generalize sI σ 111 (upd (σ.1 111) 0 (iI 0)) = τ at hq hR0 hC0 ⊢
  refine go_aload_n dX12_kept_5 rfl ?_
  refine go_getI fX12_294 dX12_kept_6 rfl ?_
  refine go_if_eq (tgt := 34) dX12_kept_9 (by decide) (fun h9 => ?_) (fun h9 => ?_)
  · rw [hC0.2.1.1, iI_eq0 (by omega)] at h9
    refine go_iconst (v := iI (-1)) dX12_kept_34 (by decide) ?_
    refine go_iret rfl rfl dX12_kept_35 ?_
    have e : keptA X n v = -1 := by unfold keptA; rw [if_neg (by omega)]
    have h99 := hK τ hq
    rw [e] at h99
    exact h99
  · rw [hC0.2.1.1, iI_eq0 (by omega)] at h9
    refine go_iload_n dX12_kept_12 rfl ?_
    refine go_i2l dX12_kept_13 ?_
    rw [i2l_iI (by omega)]
    refine go_lconst (v := 1) dX12_kept_14 (by decide) ?_
    refine go_ldc2 lX12_367 dX12_kept_15 ?_
    refine go_callS (as := [_, _, _]) wX12_217 dX12_kept_18 rfl rfl (Nat.le_of_ble_eq_true rfl) (ct_isIn2 (x := 1) (y := 9) (by decide) (by decide) (by omega) (fun hi => ?_) (fun hi => ?_))
    · refine go_if_eq (tgt := 34) dX12_kept_21 (by decide) (fun h21 => ?_) (fun h21 => ?_)
      · exact absurd h21 (by decide)
      · refine go_iload_n dX12_kept_24 rfl ?_
        refine go_i2l dX12_kept_25 ?_
        rw [i2l_iI (by omega)]
        refine go_lconst (v := 0) dX12_kept_26 (by decide) ?_
        refine go_lconst (v := 1) dX12_kept_27 (by decide) ?_
        refine go_callS (as := [_, _, _]) wX12_217 dX12_kept_28 rfl rfl (Nat.le_of_ble_eq_true rfl) (ct_isIn2 (x := 0) (y := 1) (by decide) (by decide) (by omega) (fun hj => ?_) (fun hj => ?_))
        · refine go_if_ne (tgt := 36) dX12_kept_31 (by decide) (fun h31 => ?_) (fun h31 => ?_)
          · obtain ⟨q, rfl⟩ : ∃ q : Nat, n = q := ⟨n.toNat, by omega⟩
            refine go_iconst (v := iI (-1)) dX12_kept_36 (by decide) ?_
            refine go_istore_n dX12_kept_37 (Nat.le_of_ble_eq_true rfl) rfl ?_
            refine go_iconst (v := iI 0) dX12_kept_38 (by decide) ?_
            refine go_istore dX12_kept_39 (Nat.le_of_ble_eq_true rfl) rfl ?_
            refine go_iconst (v := iI 0) dX12_kept_41 (by decide) ?_
            refine go_istore dX12_kept_42 (Nat.le_of_ble_eq_true rfl) rfl ?_
            simp only [List.set]
            have e : keptA X q v = (if v = 1 then ((kpF X q (2 ^ nQ (xs X))).1 : Int) else (nP (xs X) : Int) - (kpF X q (2 ^ nQ (xs X))).2) := by unfold keptA; rw [if_pos (by omega), Int.toNat_natCast]
            rw [e] at hK
            exact mt44 hR0 hK0 hC0 (by omega) hj (fun ρ hq2 => hK ρ (hq.tr hq2)) (2 ^ nQ (xs X)) 0 τ (by omega) DF.rf _
          · exact absurd h31 (by decide)
        · refine go_if_ne (tgt := 36) dX12_kept_31 (by decide) (fun h31 => ?_) (fun h31 => ?_)
          · exact absurd h31 (by decide)
          · refine go_iconst (v := iI (-1)) dX12_kept_34 (by decide) ?_
            refine go_iret rfl rfl dX12_kept_35 ?_
            have e : keptA X n v = -1 := by unfold keptA; rw [if_neg (by omega)]
            have h99 := hK τ hq
            rw [e] at h99
            exact h99
    · refine go_if_eq (tgt := 34) dX12_kept_21 (by decide) (fun h21 => ?_) (fun h21 => ?_)
      · refine go_iconst (v := iI (-1)) dX12_kept_34 (by decide) ?_
        refine go_iret rfl rfl dX12_kept_35 ?_
        have e : keptA X n v = -1 := by unfold keptA; rw [if_neg (by omega)]
        have h99 := hK τ hq
        rw [e] at h99
        exact h99
      · exact absurd h21 (by decide)

