/-! the model: hidden pipes -/
theorem ct_X12_moreBy {l : Launch} {D : va_G} {cA ad : Nat → Nat} {d : Nat} {σ : AS} {K : Option Value → AS → Prop} {w p : Nat} (hw : w < 1700) (hp : p < 7) (hK : K (some (.int (iI (gnF w p)))) σ) : Call l D cA ad d mX12_moreBy [.int (iI (w : Nat)), .int (iI (p : Nat))] σ K := by
  refine call_go (by decide) (Nat.le_of_ble_eq_true rfl) (show Go l D cA ad d mX12_moreBy 0 [.int (iI (w : Nat)), .int (iI (p : Nat)), .null] [] σ K from ?_)
  refine go_iload_n dX12_moreBy_0 rfl ?_
  refine go_if_ne (tgt := 6) dX12_moreBy_1 (by decide) (fun h1 => ?_) (fun h1 => ?_)
  · rw [iI_eq0 (by omega)] at h1
    refine go_iload_n dX12_moreBy_6 rfl ?_
    refine go_bipush (v := iI 10) dX12_moreBy_7 (by decide) ?_
    refine go_irem dX12_moreBy_9 (by decide) ?_
    rw [iI_rem (by omega) (by decide)]
    refine go_istore_n dX12_moreBy_10 (Nat.le_of_ble_eq_true rfl) rfl ?_
    refine go_iload_n dX12_moreBy_11 rfl ?_
    refine go_bipush (v := iI 100) dX12_moreBy_12 (by decide) ?_
    refine go_idiv dX12_moreBy_14 (by decide) ?_
    rw [iI_div (by omega) (by decide)]
    refine go_bipush (v := iI 10) dX12_moreBy_15 (by decide) ?_
    refine go_irem dX12_moreBy_17 (by decide) ?_
    rw [iI_rem (by omega) (by decide)]
    refine go_iload_n dX12_moreBy_18 rfl ?_
    refine go_icmp_ne (tgt := 27) dX12_moreBy_19 (by decide) (fun h19 => ?_) (fun h19 => ?_)
    · rw [iI_eq (by omega)] at h19
      refine go_iload_n dX12_moreBy_27 rfl ?_
      refine go_bipush (v := iI 10) dX12_moreBy_28 (by decide) ?_
      refine go_idiv dX12_moreBy_30 (by decide) ?_
      rw [iI_div (by omega) (by decide)]
      refine go_bipush (v := iI 10) dX12_moreBy_31 (by decide) ?_
      refine go_irem dX12_moreBy_33 (by decide) ?_
      rw [iI_rem (by omega) (by decide)]
      refine go_iload_n dX12_moreBy_34 rfl ?_
      refine go_icmp_ne (tgt := 42) dX12_moreBy_35 (by decide) (fun h35 => ?_) (fun h35 => ?_)
      · rw [iI_eq (by omega)] at h35
        refine go_iconst (v := iI 0) dX12_moreBy_42 (by decide) ?_
        refine go_iret rfl rfl dX12_moreBy_43 ?_
        have e : gnF w p = 0 := by unfold gnF; rw [if_neg (by omega), if_neg h19, if_neg h35]
        rw [e] at hK
        exact hK
      · rw [iI_eq (by omega)] at h35
        refine go_iload_n dX12_moreBy_38 rfl ?_
        refine go_goto (tgt := 43) dX12_moreBy_39 (by decide) ?_
        refine go_iret rfl rfl dX12_moreBy_43 ?_
        have e : gnF w p = (w : Int) % 10 := by unfold gnF; rw [if_neg (by omega), if_neg h19, if_pos h35]
        rw [e] at hK
        exact hK
    · rw [iI_eq (by omega)] at h19
      refine go_iload_n dX12_moreBy_22 rfl ?_
      refine go_ineg dX12_moreBy_23 ?_
      rw [iI_neg]
      refine go_goto (tgt := 43) dX12_moreBy_24 (by decide) ?_
      refine go_iret rfl rfl dX12_moreBy_43 ?_
      have e : gnF w p = -((w : Int) % 10) := by unfold gnF; rw [if_neg (by omega), if_pos h19]
      rw [e] at hK
      exact hK
  · rw [iI_eq0 (by omega)] at h1
    refine go_iconst (v := iI 0) dX12_moreBy_4 (by decide) ?_
    refine go_iret rfl rfl dX12_moreBy_5 ?_
    have e : gnF w p = 0 := by unfold gnF; rw [if_pos (by omega)]
    rw [e] at hK
    exact hK

theorem iw0 {l : Launch} {D : va_G} {cA ad : Nat → Nat} {d : Nat} {σ : AS} {K : Option Value → AS → Prop} {ms : List (Nat × Int)} {w i : Nat} {v2 v3 : Int32} (hM : MsM σ ms) (hl : ms.length ≤ 10) (hi : i ≤ 100) (hK : K (some (.int (iI 0))) σ) : Go l D cA ad (d + 1) mX12_isWay 65 [.ref 111, .int (iI (w : Nat)), .int v2, .int v3, .int (iI 0), .int (iI i)] [] σ K := by
  refine go_iload dX12_isWay_65 rfl ?_
  refine go_aload_n dX12_isWay_67 rfl ?_
  refine go_getI fX12_303 dX12_isWay_68 rfl ?_
  refine go_icmp_ge (tgt := 113) dX12_isWay_71 (by decide) (fun h71 => ?_) (fun h71 => ?_)
  · rw [hM.1, iI_le (by omega)] at h71
    refine go_iload dX12_isWay_113 rfl ?_
    refine go_iret rfl rfl dX12_isWay_115 ?_
    exact hK
  · rw [hM.1, iI_le (by omega)] at h71
    refine go_iload dX12_isWay_74 rfl ?_
    refine go_if_eq (tgt := 113) dX12_isWay_76 (by decide) (fun h76 => ?_) (fun h76 => ?_)
    · refine go_iload dX12_isWay_113 rfl ?_
      refine go_iret rfl rfl dX12_isWay_115 ?_
      exact hK
    · exact absurd (by decide) h76
theorem iw1 {l : Launch} {D : va_G} {cA ad : Nat → Nat} {d : Nat} {σ : AS} {K : Option Value → AS → Prop} {ms : List (Nat × Int)} {w : Nat} {v2 v3 : Int32} {b : Bool} (hR : RO σ) (hM : MsM σ ms) (hl : ms.length ≤ 10) (hmk : ∀ m, m ∈ ms → m.1 < 7 ∧ -9 ≤ m.2 ∧ m.2 ≤ 9) (hw : w < 1700) (hK1 : b = true → K (some (.int (iI 1))) σ) (hK0 : b = false → K (some (.int (iI 0))) σ) : ∀ (R : List (Nat × Int)) (i : Nat), ms.drop i = R → i ≤ ms.length → fitF R w = b → Go l D cA ad (d + 1) mX12_isWay 65 [.ref 111, .int (iI (w : Nat)), .int v2, .int v3, .int (iI 1), .int (iI i)] [] σ K := by
  intro R
  induction R with
  | nil =>
    intro i hR2 hi hres
    have hil := drop_nil hR2 hi
    refine go_iload dX12_isWay_65 rfl ?_
    refine go_aload_n dX12_isWay_67 rfl ?_
    refine go_getI fX12_303 dX12_isWay_68 rfl ?_
    rw [hM.1]
    refine go_icmp_ge (tgt := 113) dX12_isWay_71 (by decide) (fun h71 => ?_) (fun h71 => ?_)
    · refine go_iload dX12_isWay_113 rfl ?_
      refine go_iret rfl rfl dX12_isWay_115 ?_
      exact hK1 hres.symm
    · exfalso
      rw [iI_le (by omega)] at h71
      omega
  | cons m R ih =>
    intro i hR2 hi hres
    have hx := drop_cons hR2
    have hil := hx.2.2
    have hmm := hmk m (List.mem_of_getElem? hx.1)
    have hgb := gnF_bd w m.1
    refine go_iload dX12_isWay_65 rfl ?_
    refine go_aload_n dX12_isWay_67 rfl ?_
    refine go_getI fX12_303 dX12_isWay_68 rfl ?_
    rw [hM.1]
    refine go_icmp_ge (tgt := 113) dX12_isWay_71 (by decide) (fun h71 => ?_) (fun h71 => ?_)
    · exfalso
      rw [iI_le (by omega)] at h71
      omega
    · refine go_iload dX12_isWay_74 rfl ?_
      refine go_if_eq (tgt := 113) dX12_isWay_76 (by decide) (fun h76 => ?_) (fun h76 => ?_)
      · exact absurd h76 (by decide)
      · refine go_iload_n dX12_isWay_79 rfl ?_
        refine go_aload_n dX12_isWay_80 rfl ?_
        refine go_getR fX12_84 dX12_isWay_81 rfl (hR _ _ _ rfl) ?_
        refine go_iload dX12_isWay_84 rfl ?_
        refine go_iald dX12_isWay_86 rfl (vp_iI (by omega)) ?_
        rw [cl_n _ (by omega), (hM.2 i m hx.1).1]
        refine go_callS (as := [_, _]) wX12_445 dX12_isWay_87 rfl rfl (Nat.le_of_ble_eq_true rfl) (ct_X12_moreBy hw (by omega) ?_)
        refine go_aload_n dX12_isWay_90 rfl ?_
        refine go_getR fX12_87 dX12_isWay_91 rfl (hR _ _ _ rfl) ?_
        refine go_iload dX12_isWay_94 rfl ?_
        refine go_iald dX12_isWay_96 rfl (vp_iI (by omega)) ?_
        rw [cl_n _ (by omega), (hM.2 i m hx.1).2]
        refine go_icmp_ne (tgt := 104) dX12_isWay_97 (by decide) (fun h97 => ?_) (fun h97 => ?_)
        · rw [iI_eq (by omega)] at h97
          refine go_iconst (v := iI 0) dX12_isWay_104 (by decide) ?_
          refine go_istore dX12_isWay_105 (Nat.le_of_ble_eq_true rfl) rfl ?_
          refine go_iincI dX12_isWay_107 rfl (Nat.le_of_ble_eq_true rfl) rfl ?_
          refine go_goto (tgt := 65) dX12_isWay_110 (by decide) ?_
          have e : fitF (m :: R) w = false := by show (gnF w m.1 == m.2 && _) = false; rw [beq_eq_false_iff_ne.mpr h97, Bool.false_and]
          rw [e] at hres
          simp only [List.set, iI_add]
          exact iw0 (i := i + 1) hM hl (by omega) (hK0 hres.symm)
        · rw [iI_eq (by omega)] at h97
          refine go_iconst (v := iI 1) dX12_isWay_100 (by decide) ?_
          refine go_goto (tgt := 105) dX12_isWay_101 (by decide) ?_
          refine go_istore dX12_isWay_105 (Nat.le_of_ble_eq_true rfl) rfl ?_
          refine go_iincI dX12_isWay_107 rfl (Nat.le_of_ble_eq_true rfl) rfl ?_
          refine go_goto (tgt := 65) dX12_isWay_110 (by decide) ?_
          simp only [List.set, iI_add]
          refine ih (i + 1) hx.2.1 (by omega) ?_
          rw [← hres]
          show _ = (gnF w m.1 == m.2 && fitF R w)
          rw [h97, beq_self_eq_true, Bool.true_and]
theorem ct_X12_isWay {l : Launch} {D : va_G} {cA ad : Nat → Nat} {d : Nat} {σ : AS} {K : Option Value → AS → Prop} {X : XS} {w : Nat} (hR : RO σ) (hK0 : XK X) (hC : MI σ X) (hw : w < 1700) (hK1 : (isW (nP (xs X)) w && fitF (xm X) w) = true → K (some (.int (iI 1))) σ) (hK2 : (isW (nP (xs X)) w && fitF (xm X) w) = false → K (some (.int (iI 0))) σ) : Call l D cA ad (d + 1) mX12_isWay [.ref 111, .int (iI (w : Nat))] σ K := by
  have hP7 := hK0.s.1
  refine call_go (by decide) (Nat.le_of_ble_eq_true rfl) (show Go l D cA ad (d + 1) mX12_isWay 0 [.ref 111, .int (iI (w : Nat)), .null, .null, .null, .null] [] σ K from ?_)
  refine go_iload_n dX12_isWay_0 rfl ?_
  refine go_bipush (v := iI 100) dX12_isWay_1 (by decide) ?_
  refine go_idiv dX12_isWay_3 (by decide) ?_
  rw [iI_div (by omega) (by decide)]
  refine go_bipush (v := iI 10) dX12_isWay_4 (by decide) ?_
  refine go_irem dX12_isWay_6 (by decide) ?_
  rw [iI_rem (by omega) (by decide)]
  refine go_istore_n dX12_isWay_7 (Nat.le_of_ble_eq_true rfl) rfl ?_
  refine go_iload_n dX12_isWay_8 rfl ?_
  refine go_bipush (v := iI 10) dX12_isWay_9 (by decide) ?_
  refine go_idiv dX12_isWay_11 (by decide) ?_
  rw [iI_div (by omega) (by decide)]
  refine go_bipush (v := iI 10) dX12_isWay_12 (by decide) ?_
  refine go_irem dX12_isWay_14 (by decide) ?_
  rw [iI_rem (by omega) (by decide)]
  refine go_istore_n dX12_isWay_15 (Nat.le_of_ble_eq_true rfl) rfl ?_
  refine go_iload_n dX12_isWay_16 rfl ?_
  refine go_if_eq (tgt := 55) dX12_isWay_17 (by decide) (fun h17 => ?_) (fun h17 => ?_)
  · rw [iI_eq0 (by omega)] at h17
    refine go_iconst (v := iI 1) dX12_isWay_55 (by decide) ?_
    refine go_goto (tgt := 60) dX12_isWay_56 (by decide) ?_
    refine go_istore dX12_isWay_60 (Nat.le_of_ble_eq_true rfl) rfl ?_
    refine go_iconst (v := iI 0) dX12_isWay_62 (by decide) ?_
    refine go_istore dX12_isWay_63 (Nat.le_of_ble_eq_true rfl) rfl ?_
    have e : isW (nP (xs X)) w = true := decide_eq_true (by omega)
    simp only [List.set]
    exact iw1 hR hC.2.2.2.2.2.1 hK0.m.1 (ms7 hK0) hw (fun h => hK1 (by rw [e, h]; rfl)) (fun h => hK2 (by rw [e, h]; rfl)) (xm X) 0 rfl (Nat.zero_le _) rfl
  · rw [iI_eq0 (by omega)] at h17
    refine go_iload_n dX12_isWay_20 rfl ?_
    refine go_sipush (v := iI 1000) dX12_isWay_21 (by decide) ?_
    refine go_icmp_le (tgt := 59) dX12_isWay_24 (by decide) (fun h24 => ?_) (fun h24 => ?_)
    · rw [iI_le (by omega)] at h24
      refine go_iconst (v := iI 0) dX12_isWay_59 (by decide) ?_
      refine go_istore dX12_isWay_60 (Nat.le_of_ble_eq_true rfl) rfl ?_
      refine go_iconst (v := iI 0) dX12_isWay_62 (by decide) ?_
      refine go_istore dX12_isWay_63 (Nat.le_of_ble_eq_true rfl) rfl ?_
      have e : isW (nP (xs X)) w = false := decide_eq_false (by omega)
      simp only [List.set]
      exact iw0 (i := 0) hC.2.2.2.2.2.1 hK0.m.1 (by decide) (hK2 (by rw [e]; rfl))
    · rw [iI_le (by omega)] at h24
      refine go_iload_n dX12_isWay_27 rfl ?_
      refine go_iload_n dX12_isWay_28 rfl ?_
      refine go_icmp_eq (tgt := 59) dX12_isWay_29 (by decide) (fun h29 => ?_) (fun h29 => ?_)
      · rw [iI_eq (by omega)] at h29
        refine go_iconst (v := iI 0) dX12_isWay_59 (by decide) ?_
        refine go_istore dX12_isWay_60 (Nat.le_of_ble_eq_true rfl) rfl ?_
        refine go_iconst (v := iI 0) dX12_isWay_62 (by decide) ?_
        refine go_istore dX12_isWay_63 (Nat.le_of_ble_eq_true rfl) rfl ?_
        have e : isW (nP (xs X)) w = false := decide_eq_false (by omega)
        simp only [List.set]
        exact iw0 (i := 0) hC.2.2.2.2.2.1 hK0.m.1 (by decide) (hK2 (by rw [e]; rfl))
      · rw [iI_eq (by omega)] at h29
        refine go_iload_n dX12_isWay_32 rfl ?_
        refine go_aload_n dX12_isWay_33 rfl ?_
        refine go_getI fX12_294 dX12_isWay_34 rfl ?_
        refine go_icmp_ge (tgt := 59) dX12_isWay_37 (by decide) (fun h37 => ?_) (fun h37 => ?_)
        · rw [hC.2.1.1, iI_le (by omega)] at h37
          refine go_iconst (v := iI 0) dX12_isWay_59 (by decide) ?_
          refine go_istore dX12_isWay_60 (Nat.le_of_ble_eq_true rfl) rfl ?_
          refine go_iconst (v := iI 0) dX12_isWay_62 (by decide) ?_
          refine go_istore dX12_isWay_63 (Nat.le_of_ble_eq_true rfl) rfl ?_
          have e : isW (nP (xs X)) w = false := decide_eq_false (by omega)
          simp only [List.set]
          exact iw0 (i := 0) hC.2.2.2.2.2.1 hK0.m.1 (by decide) (hK2 (by rw [e]; rfl))
        · rw [hC.2.1.1, iI_le (by omega)] at h37
          refine go_iload_n dX12_isWay_40 rfl ?_
          refine go_aload_n dX12_isWay_41 rfl ?_
          refine go_getI fX12_294 dX12_isWay_42 rfl ?_
          refine go_icmp_ge (tgt := 59) dX12_isWay_45 (by decide) (fun h45 => ?_) (fun h45 => ?_)
          · rw [hC.2.1.1, iI_le (by omega)] at h45
            refine go_iconst (v := iI 0) dX12_isWay_59 (by decide) ?_
            refine go_istore dX12_isWay_60 (Nat.le_of_ble_eq_true rfl) rfl ?_
            refine go_iconst (v := iI 0) dX12_isWay_62 (by decide) ?_
            refine go_istore dX12_isWay_63 (Nat.le_of_ble_eq_true rfl) rfl ?_
            have e : isW (nP (xs X)) w = false := decide_eq_false (by omega)
            simp only [List.set]
            exact iw0 (i := 0) hC.2.2.2.2.2.1 hK0.m.1 (by decide) (hK2 (by rw [e]; rfl))
          · rw [hC.2.1.1, iI_le (by omega)] at h45
            refine go_iload_n dX12_isWay_48 rfl ?_
            refine go_bipush (v := iI 10) dX12_isWay_49 (by decide) ?_
            refine go_irem dX12_isWay_51 (by decide) ?_
            rw [iI_rem (by omega) (by decide)]
            refine go_if_le (tgt := 59) dX12_isWay_52 (by decide) (fun h52 => ?_) (fun h52 => ?_)
            · rw [iI_le0 (by omega)] at h52
              refine go_iconst (v := iI 0) dX12_isWay_59 (by decide) ?_
              refine go_istore dX12_isWay_60 (Nat.le_of_ble_eq_true rfl) rfl ?_
              refine go_iconst (v := iI 0) dX12_isWay_62 (by decide) ?_
              refine go_istore dX12_isWay_63 (Nat.le_of_ble_eq_true rfl) rfl ?_
              have e : isW (nP (xs X)) w = false := decide_eq_false (by omega)
              simp only [List.set]
              exact iw0 (i := 0) hC.2.2.2.2.2.1 hK0.m.1 (by decide) (hK2 (by rw [e]; rfl))
            · rw [iI_le0 (by omega)] at h52
              refine go_iconst (v := iI 1) dX12_isWay_55 (by decide) ?_
              refine go_goto (tgt := 60) dX12_isWay_56 (by decide) ?_
              refine go_istore dX12_isWay_60 (Nat.le_of_ble_eq_true rfl) rfl ?_
              refine go_iconst (v := iI 0) dX12_isWay_62 (by decide) ?_
              refine go_istore dX12_isWay_63 (Nat.le_of_ble_eq_true rfl) rfl ?_
              have e : isW (nP (xs X)) w = true := decide_eq_true (by omega)
              simp only [List.set]
              exact iw1 hR hC.2.2.2.2.2.1 hK0.m.1 (ms7 hK0) hw (fun h => hK1 (by rw [e, h]; rfl)) (fun h => hK2 (by rw [e, h]; rfl)) (xm X) 0 rfl (Nat.zero_le _) rfl

theorem rng_cons {n i w : Nat} {R : List Nat} (h : (List.range n).drop i = w :: R) : i = w ∧ (List.range n).drop (i + 1) = R ∧ i < n := by
  have hx := drop_cons h
  have hi := hx.2.2
  rw [List.length_range] at hi
  have := List.getElem?_range hi
  rw [hx.1] at this
  exact ⟨(Option.some.inj this).symm, hx.2.1, hi⟩
theorem rng_nil {n i : Nat} (h : (List.range n).drop i = []) (hi : i ≤ n) : i = n := by
  have := drop_nil h (by rw [List.length_range]; exact hi)
  rwa [List.length_range] at this
def wQ (X : XS) : Nat → Bool := fun w => isW (nP (xs X)) w && fitF (xm X) w
theorem se23 {l : Launch} {D : va_G} {cA ad : Nat → Nat} {d : Nat} {σ : AS} {K : Option Value → AS → Prop} {X : XS} {a N : Int} (hR : RO σ) (hK0 : XK X) (hC : MI σ X) (ha32 : -1 ≤ a ∧ a < 2147483648) (hK : K (some (.int (iI N))) σ) : ∀ (R : List Nat) (i c : Nat), (List.range 1700).drop i = R → i ≤ 1700 → c ≤ i → (a = -1 → (c : Int) + ((R.filter (wQ X)).length : Int) = N) → (0 ≤ a → (c : Int) ≤ a → gtF (R.filter (wQ X)) (a.toNat - c) = N) → (0 ≤ a → (c : Int) ≤ a) → Go l D cA ad (d + 2) mX12_secret 23 [.ref 111, .int (iI a), .int (iI (c : Nat)), .int (iI i)] [] σ K := by
  intro R
  induction R with
  | nil =>
    intro i c hR2 hi hci hr1 hr2 hca
    have hil := rng_nil hR2 hi
    refine go_iload_n dX12_secret_23 rfl ?_
    refine go_sipush (v := iI 1700) dX12_secret_24 (by decide) ?_
    refine go_icmp_ge (tgt := 57) dX12_secret_27 (by decide) (fun h27 => ?_) (fun h27 => ?_)
    · refine go_iload_n dX12_secret_57 rfl ?_
      refine go_iconst (v := iI (-1)) dX12_secret_58 (by decide) ?_
      refine go_icmp_ne (tgt := 66) dX12_secret_59 (by decide) (fun h59 => ?_) (fun h59 => ?_)
      · rw [iI_eq (by omega)] at h59
        refine go_iconst (v := iI (-1)) dX12_secret_66 (by decide) ?_
        refine go_iret rfl rfl dX12_secret_67 ?_
        have h3 := hr2 (by omega) (by omega)
        rw [gt_e] at h3
        rw [h3]
        exact hK
      · rw [iI_eq (by omega)] at h59
        refine go_iload_n dX12_secret_62 rfl ?_
        refine go_goto (tgt := 67) dX12_secret_63 (by decide) ?_
        refine go_iret rfl rfl dX12_secret_67 ?_
        have h3 : (c : Int) + 0 = N := hr1 h59
        rw [show (c : Int) = N by omega]
        exact hK
    · exact absurd (by rw [hil]; decide) h27
  | cons x R ih =>
    intro i c hR2 hi hci hr1 hr2 hca
    have hx := rng_cons hR2
    have hil := hx.2.2
    have hxe := hx.1
    subst hxe
    refine go_iload_n dX12_secret_23 rfl ?_
    refine go_sipush (v := iI 1700) dX12_secret_24 (by decide) ?_
    refine go_icmp_ge (tgt := 57) dX12_secret_27 (by decide) (fun h27 => ?_) (fun h27 => ?_)
    · exfalso
      rw [iI_le (by omega)] at h27
      omega
    · refine go_aload_n dX12_secret_30 rfl ?_
      refine go_iload_n dX12_secret_31 rfl ?_
      refine go_callV (as := [_]) wX12_448 dX12_secret_32 rfl rfl rfl rfl (Nat.le_of_ble_eq_true rfl) (ct_X12_isWay (w := i) hR hK0 hC (by omega) (fun hf => ?_) (fun hf => ?_))
      · have hf : wQ X i = true := hf
        refine go_if_ne (tgt := 41) dX12_secret_35 (by decide) (fun h35 => ?_) (fun h35 => ?_)
        · refine go_iload_n dX12_secret_41 rfl ?_
          refine go_iload_n dX12_secret_42 rfl ?_
          refine go_icmp_ne (tgt := 48) dX12_secret_43 (by decide) (fun h43 => ?_) (fun h43 => ?_)
          · rw [iI_eq (by omega)] at h43
            refine go_iincI dX12_secret_48 rfl (Nat.le_of_ble_eq_true rfl) rfl ?_
            refine go_iincI dX12_secret_51 rfl (Nat.le_of_ble_eq_true rfl) rfl ?_
            refine go_goto (tgt := 23) dX12_secret_54 (by decide) ?_
            simp only [List.set, iI_add]
            exact ih (i + 1) (c + 1) hx.2.1 (by omega) (by omega) (fun h => by rw [List.filter_cons_of_pos hf, List.length_cons] at hr1; have := hr1 h; omega) (fun h1 h2 => by
              have h3 := hr2 h1 (by omega)
              rw [show a.toNat - c = (a.toNat - (c + 1)) + 1 by omega, gt_y hf] at h3
              exact h3) (fun h => by have := hca h; omega)
          · rw [iI_eq (by omega)] at h43
            refine go_iload_n dX12_secret_46 rfl ?_
            refine go_iret rfl rfl dX12_secret_47 ?_
            have h3 := hr2 (by omega) (by omega)
            rw [show a.toNat - c = 0 by omega, gt_0 hf] at h3
            rw [h3]
            exact hK
        · exact absurd h35 (by decide)
      · have hf : wQ X i = false := hf
        refine go_if_ne (tgt := 41) dX12_secret_35 (by decide) (fun h35 => ?_) (fun h35 => ?_)
        · exact absurd h35 (by decide)
        · refine go_goto (tgt := 51) dX12_secret_38 (by decide) ?_
          refine go_iincI dX12_secret_51 rfl (Nat.le_of_ble_eq_true rfl) rfl ?_
          refine go_goto (tgt := 23) dX12_secret_54 (by decide) ?_
          simp only [List.set, iI_add]
          exact ih (i + 1) c hx.2.1 (by omega) (by omega) (fun h => by rw [List.filter_cons_of_neg (by rw [hf]; decide)] at hr1; exact hr1 h) (fun h1 h2 => by
            have h3 := hr2 h1 h2
            rw [gt_n (by rw [hf]; decide)] at h3
            exact h3) hca
theorem ct_X12_secret {l : Launch} {D : va_G} {cA ad : Nat → Nat} {d : Nat} {σ : AS} {K : Option Value → AS → Prop} {X : XS} {a : Int} (hR : RO σ) (hK0 : XK X) (hC : MI σ X) (ha32 : -2147483648 ≤ a ∧ a < 2147483648) (hK : ∀ τ, DF (xL X) σ τ → K (some (.int (iI (secA X a)))) τ) : Call l D cA ad (d + 2) mX12_secret [.ref 111, .int (iI a)] σ K := by
  have hP7 := hK0.s.1
  have hQ9 := hK0.s.2.1
  refine call_go (by decide) (Nat.le_of_ble_eq_true rfl) (show Go l D cA ad (d + 2) mX12_secret 0 [.ref 111, .int (iI a), .null, .null] [] σ K from ?_)
  refine go_aload_n dX12_secret_0 rfl ?_
  refine go_iconst (v := iI 0) dX12_secret_1 (by decide) ?_
  refine go_putI fX12_96 rfl dX12_secret_2 rfl rfl rfl ?_
  have hq : DF (xL X) σ (sI σ 111 (upd (σ.1 111) 0 (iI 0))) := DF_f0 DF.rf
  have hR0 := hq.RO hR
  have hC0 := hC.q hK0 hq
  generalize sI σ 111 (upd (σ.1 111) 0 (iI 0)) = τ at hq hR0 hC0 ⊢
  refine go_aload_n dX12_secret_5 rfl ?_
  refine go_getI fX12_294 dX12_secret_6 rfl ?_
  refine go_if_eq (tgt := 17) dX12_secret_9 (by decide) (fun h9 => ?_) (fun h9 => ?_)
  · rw [hC0.2.1.1, iI_eq0 (by omega)] at h9
    refine go_iconst (v := iI (-1)) dX12_secret_17 (by decide) ?_
    refine go_iret rfl rfl dX12_secret_18 ?_
    have e : secA X a = -1 := by unfold secA; rw [if_neg (by omega)]
    rw [e] at hK
    exact hK τ hq
  · rw [hC0.2.1.1, iI_eq0 (by omega)] at h9
    refine go_iload_n dX12_secret_12 rfl ?_
    refine go_iconst (v := iI (-1)) dX12_secret_13 (by decide) ?_
    refine go_icmp_ge (tgt := 19) dX12_secret_14 (by decide) (fun h14 => ?_) (fun h14 => ?_)
    · rw [iI_le (by omega)] at h14
      refine go_iconst (v := iI 0) dX12_secret_19 (by decide) ?_
      refine go_istore_n dX12_secret_20 (Nat.le_of_ble_eq_true rfl) rfl ?_
      refine go_iconst (v := iI 0) dX12_secret_21 (by decide) ?_
      refine go_istore_n dX12_secret_22 (Nat.le_of_ble_eq_true rfl) rfl ?_
      have hfm : fwL X = (List.range 1700).filter (wQ X) := fwL_m hK0
      have h9 := hK τ hq
      simp only [List.set]
      refine se23 (N := secA X a) hR0 hK0 hC0 (by omega) h9 (List.range 1700) 0 0 List.drop_zero (Nat.zero_le _) (Nat.zero_le _) (fun h => ?_) (fun h1 h2 => ?_) (fun h => h)
      · unfold secA; rw [if_pos (by omega), if_pos h, hfm]; omega
      · unfold secA; rw [if_pos (by omega), if_neg (by omega), hfm]; rfl
    · rw [iI_le (by omega)] at h14
      refine go_iconst (v := iI (-1)) dX12_secret_17 (by decide) ?_
      refine go_iret rfl rfl dX12_secret_18 ?_
      have e : secA X a = -1 := by unfold secA; rw [if_neg (by omega)]
      rw [e] at hK
      exact hK τ hq

theorem DF_131 {Ls : LwT} {σ τ : AS} {f : Nat → Int32} (h : DF Ls σ τ) : DF Ls σ (sI τ 131 f) := h.sI (by decide) (by unfold uM; omega) (by decide)
theorem me39 {l : Launch} {D : va_G} {cA ad : Nat → Nat} {d : Nat} {σ : AS} {K : Option Value → AS → Prop} {g : Nat → Int32} {v1 v2 v3 : Int32} {v5 : Value} (hR : RO σ) (hK : Go l D cA ad d mX12_measure 60 [.ref 111, .int v1, .int v2, .int v3, .int (iI 19), v5] [] (sI σ 131 (cpR (fun _ => iI 0) g 19)) K) : ∀ i : Nat, i ≤ 19 → Go l D cA ad d mX12_measure 39 [.ref 111, .int v1, .int v2, .int v3, .int (iI i), v5] [] (sI σ 131 (cpR (fun _ => iI 0) g i)) K := by
  refine up_loop ?_ (fun i hi ih => ?_)
  · refine go_iload dX12_measure_39 rfl ?_
    refine go_bipush (v := iI 18) dX12_measure_41 (by decide) ?_
    refine go_icmp_gt (tgt := 60) dX12_measure_43 (by decide) (fun h43 => ?_) (fun h43 => ?_)
    · exact hK
    · exact absurd (by decide) h43
  · refine go_iload dX12_measure_39 rfl ?_
    refine go_bipush (v := iI 18) dX12_measure_41 (by decide) ?_
    refine go_icmp_gt (tgt := 60) dX12_measure_43 (by decide) (fun h43 => ?_) (fun h43 => ?_)
    · exfalso
      rw [iI_lt (by omega)] at h43
      omega
    · refine go_aload_n dX12_measure_46 rfl ?_
      refine go_getR fX12_90 dX12_measure_47 rfl (hR _ _ _ rfl) ?_
      refine go_iload dX12_measure_50 rfl ?_
      refine go_iconst (v := iI 0) dX12_measure_52 (by decide) ?_
      refine go_iast dX12_measure_53 rfl (vp_iI (by omega)) ?_
      rw [cl_n _ (by omega), sI_same, sI_sI]
      rw [show upd (cpR (fun _ => iI 0) g i) i (iI 0) = cpR (fun _ => iI 0) g (i + 1) from cpR_s (fun _ => iI 0) g i]
      refine go_iincI dX12_measure_54 rfl (Nat.le_of_ble_eq_true rfl) rfl ?_
      refine go_goto (tgt := 39) dX12_measure_57 (by decide) ?_
      simp only [List.set, iI_add]
      exact ih

theorem me63 {l : Launch} {D : va_G} {cA ad : Nat → Nat} {d : Nat} {σ : AS} {K : Option Value → AS → Prop} {X : XS} {p : Nat} {N : Nat → Nat} {v1 v2 : Int32} {v5 : Value} (hR : RO σ) (hK0 : XK X) (hC : MI σ X) (hp : p < 7) (hK : ∀ r, LfR r N → Go l D cA ad (d + 3) mX12_measure 104 [.ref 111, .int v1, .int v2, .int (iI (p : Nat)), .int (iI (1700 : Nat)), v5] [] (sI σ 131 r) K) : ∀ (R : List Nat) (i : Nat) (r : Nat → Int32) (c : Nat → Nat), (List.range 1700).drop i = R → i ≤ 1700 → LfR r c → (∀ j, c j ≤ i) → ctF p (R.filter (wQ X)) c = N → Go l D cA ad (d + 3) mX12_measure 63 [.ref 111, .int v1, .int v2, .int (iI (p : Nat)), .int (iI i), v5] [] (sI σ 131 r) K := by
  intro R
  induction R with
  | nil =>
    intro i r c hR2 hi hr hcl hres
    have hil := rng_nil hR2 hi
    refine go_iload dX12_measure_63 rfl ?_
    refine go_sipush (v := iI 1700) dX12_measure_65 (by decide) ?_
    refine go_icmp_ge (tgt := 104) dX12_measure_68 (by decide) (fun h68 => ?_) (fun h68 => ?_)
    · subst hil
      exact hK r (by have e : c = N := hres; rw [← e]; exact hr)
    · exact absurd (by rw [hil]; decide) h68
  | cons x R ih =>
    intro i r c hR2 hi hr hcl hres
    have hx := rng_cons hR2
    have hil := hx.2.2
    have hxe := hx.1
    subst hxe
    have hR1 : RO (sI σ 131 r) := hR
    have hC1 : MI (sI σ 131 r) X := hC.q hK0 (DF_131 DF.rf)
    refine go_iload dX12_measure_63 rfl ?_
    refine go_sipush (v := iI 1700) dX12_measure_65 (by decide) ?_
    refine go_icmp_ge (tgt := 104) dX12_measure_68 (by decide) (fun h68 => ?_) (fun h68 => ?_)
    · exfalso
      rw [iI_le (by omega)] at h68
      omega
    · refine go_aload_n dX12_measure_71 rfl ?_
      refine go_iload dX12_measure_72 rfl ?_
      refine go_callV (as := [_]) wX12_448 dX12_measure_74 rfl rfl rfl rfl (Nat.le_of_ble_eq_true rfl) (ct_X12_isWay (w := i) hR1 hK0 hC1 (by omega) (fun hf => ?_) (fun hf => ?_))
      · have hf : wQ X i = true := hf
        refine go_if_eq (tgt := 98) dX12_measure_77 (by decide) (fun h77 => ?_) (fun h77 => ?_)
        · exact absurd h77 (by decide)
        · refine go_aload_n dX12_measure_80 rfl ?_
          refine go_getR fX12_90 dX12_measure_81 rfl (hR1 _ _ _ rfl) ?_
          refine go_bipush (v := iI 9) dX12_measure_84 (by decide) ?_
          refine go_iload dX12_measure_86 rfl ?_
          refine go_iload_n dX12_measure_88 rfl ?_
          refine go_callS (as := [_, _]) wX12_445 dX12_measure_89 rfl rfl (Nat.le_of_ble_eq_true rfl) (ct_X12_moreBy (w := i) (by omega) hp ?_)
          have hgk := gkF_ok i p
          have hcb := hcl (gkF i p)
          refine go_iadd dX12_measure_92 ?_
          rw [iI_add, show 9 + gnF i p = (gkF i p : Int) by omega]
          refine go_dup2 dX12_measure_93 rfl rfl ?_
          refine go_iald dX12_measure_94 rfl (vp_iI (by omega)) ?_
          rw [cl_n _ (by omega)]
          rw [sI_same]
          rw [hr (gkF i p) hgk.1]
          refine go_iconst (v := iI 1) dX12_measure_95 (by decide) ?_
          refine go_iadd dX12_measure_96 ?_
          rw [iI_add]
          refine go_iast dX12_measure_97 rfl (vp_iI (by omega)) ?_
          rw [cl_n _ (by omega), sI_same, sI_sI]
          refine go_iincI dX12_measure_98 rfl (Nat.le_of_ble_eq_true rfl) rfl ?_
          refine go_goto (tgt := 63) dX12_measure_101 (by decide) ?_
          simp only [List.set, iI_add]
          exact ih (i + 1) _ _ hx.2.1 (by omega) (LfR_s hr) (fun j => by have := hcl j; unfold lfS; split <;> omega) (by rw [List.filter_cons_of_pos hf] at hres; exact hres)
      · have hf : wQ X i = false := hf
        refine go_if_eq (tgt := 98) dX12_measure_77 (by decide) (fun h77 => ?_) (fun h77 => ?_)
        · skip
          refine go_iincI dX12_measure_98 rfl (Nat.le_of_ble_eq_true rfl) rfl ?_
          refine go_goto (tgt := 63) dX12_measure_101 (by decide) ?_
          simp only [List.set, iI_add]
          exact ih (i + 1) r c hx.2.1 (by omega) hr (fun j => by have := hcl j; omega) (by rw [List.filter_cons_of_neg (by rw [hf]; decide)] at hres; exact hres)
        · exact absurd h77 (by decide)
theorem me110 {l : Launch} {D : va_G} {cA ad : Nat → Nat} {d : Nat} {σ : AS} {K : Option Value → AS → Prop} {c : Nat → Nat} {v1 v2 v3 : Int32} (hR : RO σ) (hr : LfR (σ.1 131) c) (hcl : ∀ j, c j ≤ 2000) (hK : Go l D cA ad (d + 1) mX12_measure 137 [.ref 111, .int v1, .int v2, .int v3, .int (iI (mxN c 19 : Nat)), .int (iI 19)] [] σ K) : ∀ i : Nat, i ≤ 19 → Go l D cA ad (d + 1) mX12_measure 110 [.ref 111, .int v1, .int v2, .int v3, .int (iI (mxN c i : Nat)), .int (iI i)] [] σ K := by
  refine up_loop ?_ (fun i hi ih => ?_)
  · refine go_iload dX12_measure_110 rfl ?_
    refine go_bipush (v := iI 18) dX12_measure_112 (by decide) ?_
    refine go_icmp_gt (tgt := 137) dX12_measure_114 (by decide) (fun h114 => ?_) (fun h114 => ?_)
    · exact hK
    · exact absurd (by decide) h114
  · have hcb := hcl i
    have hmb := mxN_ub c 2000 i (fun j _ => hcl j)
    refine go_iload dX12_measure_110 rfl ?_
    refine go_bipush (v := iI 18) dX12_measure_112 (by decide) ?_
    refine go_icmp_gt (tgt := 137) dX12_measure_114 (by decide) (fun h114 => ?_) (fun h114 => ?_)
    · exfalso
      rw [iI_lt (by omega)] at h114
      omega
    · refine go_iload dX12_measure_117 rfl ?_
      refine go_aload_n dX12_measure_119 rfl ?_
      refine go_getR fX12_90 dX12_measure_120 rfl (hR _ _ _ rfl) ?_
      refine go_iload dX12_measure_123 rfl ?_
      refine go_iald dX12_measure_125 rfl (vp_iI (by omega)) ?_
      rw [cl_n _ (by omega), hr i hi]
      refine go_max wX12_328 dX12_measure_126 (Nat.le_of_ble_eq_true rfl) ?_
      rw [iI_mx (by omega)]
      have hmx : mx (mxN c i : Int) (c i : Int) = (mxN c (i + 1) : Int) := by show _ = (((if mxN c i < c i then c i else mxN c i) : Nat) : Int); unfold mx; split <;> split <;> omega
      rw [hmx]
      refine go_istore dX12_measure_129 (Nat.le_of_ble_eq_true rfl) rfl ?_
      refine go_iincI dX12_measure_131 rfl (Nat.le_of_ble_eq_true rfl) rfl ?_
      refine go_goto (tgt := 110) dX12_measure_134 (by decide) ?_
      simp only [List.set, iI_add]
      exact ih

theorem me28 {l : Launch} {D : va_G} {cA ad : Nat → Nat} {d : Nat} {σ : AS} {K : Option Value → AS → Prop} {X : XS} (hR : RO σ) (hK0 : XK X) (hC : MI σ X) (hK : ∀ τ, DF (xL X) σ τ → K (some (.int (iI (mmS (mostP (fwL X)) (nP (xs X))).1))) τ) : ∀ (n i : Nat) (τ : AS) (v4 v5 : Value), n + i = nP (xs X) → DF (xL X) σ τ → Go l D cA ad (d + 3) mX12_measure 28 [.ref 111, .int (iI (mmS (mostP (fwL X)) i).1), .int (iI (mmS (mostP (fwL X)) i).2), .int (iI i), v4, v5] [] τ K := by
  have hP7 := hK0.s.1
  intro n
  induction n with
  | zero =>
    intro i τ v4 v5 hr hq
    obtain rfl : i = nP (xs X) := by omega
    refine go_iload_n dX12_measure_28 rfl ?_
    refine go_aload_n dX12_measure_29 rfl ?_
    refine go_getI fX12_294 dX12_measure_30 rfl ?_
    refine go_icmp_ge (tgt := 162) dX12_measure_33 (by decide) (fun h33 => ?_) (fun h33 => ?_)
    · refine go_iload_n dX12_measure_162 rfl ?_
      refine go_iret rfl rfl dX12_measure_163 ?_
      exact hK τ hq
    · exfalso
      rw [(hC.q hK0 hq).2.1.1, iI_le (by omega)] at h33
      omega
  | succ n ih0 =>
    intro i τ v4 v5 hr hq
    have ih := fun i τ v4 v5 (h : i + n = nP (xs X)) hq => ih0 i τ v4 v5 (by omega) hq
    refine go_iload_n dX12_measure_28 rfl ?_
    refine go_aload_n dX12_measure_29 rfl ?_
    refine go_getI fX12_294 dX12_measure_30 rfl ?_
    refine go_icmp_ge (tgt := 162) dX12_measure_33 (by decide) (fun h33 => ?_) (fun h33 => ?_)
    · exfalso
      rw [(hC.q hK0 hq).2.1.1, iI_le (by omega)] at h33
      omega
    · refine go_iconst (v := iI 0) dX12_measure_36 (by decide) ?_
      refine go_istore dX12_measure_37 (Nat.le_of_ble_eq_true rfl) rfl ?_
      simp only [List.set]
      have hRt := hq.RO hR
      have hCt := hC.q hK0 hq
      have h9 := me39 (l := l) (D := D) (cA := cA) (ad := ad) (d := d + 3) (σ := τ) (K := K) (g := τ.1 131) (v1 := iI (mmS (mostP (fwL X)) i).1) (v2 := iI (mmS (mostP (fwL X)) i).2) (v3 := iI (i : Nat)) (v5 := v5) hRt ?_ 0 (by omega)
      · rw [cpR_0, sI_self] at h9
        exact h9
      refine go_iconst (v := iI 0) dX12_measure_60 (by decide) ?_
      refine go_istore dX12_measure_61 (Nat.le_of_ble_eq_true rfl) rfl ?_
      simp only [List.set]
      refine me63 (N := ctF i (fwL X) (fun _ => 0)) hRt hK0 hCt (by omega) (fun r1 hr1 => ?_) (List.range 1700) 0 _ (fun _ => 0) List.drop_zero (Nat.zero_le _) (fun k hk => by unfold cpR; rw [if_pos hk]; rfl) (fun _ => Nat.le_refl _) (by rw [show fwL X = (List.range 1700).filter (wQ X) from fwL_m hK0])
      refine go_iconst (v := iI 0) dX12_measure_104 (by decide) ?_
      refine go_istore dX12_measure_105 (Nat.le_of_ble_eq_true rfl) rfl ?_
      refine go_iconst (v := iI 0) dX12_measure_107 (by decide) ?_
      refine go_istore dX12_measure_108 (Nat.le_of_ble_eq_true rfl) rfl ?_
      simp only [List.set]
      refine me110 (σ := sI τ 131 r1) (c := ctF i (fwL X) (fun _ => 0)) hRt (by rw [sI_same]; exact hr1) (fun j => by have h1 := ctF_le i (fwL X) (fun _ => 0) 0 (fun _ => Nat.le_refl _) j; have h2 := fwL_len hK0; omega) ?_ 0 (by omega)
      have hb := mo_bd hK0 i
      have hbd := mm_bd (mo_bd hK0) i (by omega)
      rw [show mxN (ctF i (fwL X) (fun _ => 0)) 19 = mostP (fwL X) i from rfl]
      refine go_iload_n dX12_measure_137 rfl ?_
      refine go_iconst (v := iI (-1)) dX12_measure_138 (by decide) ?_
      refine go_icmp_eq (tgt := 151) dX12_measure_139 (by decide) (fun h139 => ?_) (fun h139 => ?_)
      · rw [iI_eq (by omega)] at h139
        refine go_iload_n dX12_measure_151 rfl ?_
        refine go_istore_n dX12_measure_152 (Nat.le_of_ble_eq_true rfl) rfl ?_
        refine go_iload dX12_measure_153 rfl ?_
        refine go_istore_n dX12_measure_155 (Nat.le_of_ble_eq_true rfl) rfl ?_
        refine go_iincI dX12_measure_156 rfl (Nat.le_of_ble_eq_true rfl) rfl ?_
        refine go_goto (tgt := 28) dX12_measure_159 (by decide) ?_
        have e : mmS (mostP (fwL X)) (i + 1) = ((i : Int), (mostP (fwL X) i : Int)) := if_neg (by omega)
        simp only [List.set, iI_add]
        have h9 := ih (i + 1) _ (.int (iI (mostP (fwL X) i : Nat))) (.int (iI 19)) (by omega) (DF_131 (f := r1) hq)
        rw [e] at h9
        exact h9
      · rw [iI_eq (by omega)] at h139
        refine go_iload dX12_measure_142 rfl ?_
        refine go_iload_n dX12_measure_144 rfl ?_
        refine go_icmp_lt (tgt := 151) dX12_measure_145 (by decide) (fun h145 => ?_) (fun h145 => ?_)
        · rw [iI_lt (by omega)] at h145
          refine go_iload_n dX12_measure_151 rfl ?_
          refine go_istore_n dX12_measure_152 (Nat.le_of_ble_eq_true rfl) rfl ?_
          refine go_iload dX12_measure_153 rfl ?_
          refine go_istore_n dX12_measure_155 (Nat.le_of_ble_eq_true rfl) rfl ?_
          refine go_iincI dX12_measure_156 rfl (Nat.le_of_ble_eq_true rfl) rfl ?_
          refine go_goto (tgt := 28) dX12_measure_159 (by decide) ?_
          have e : mmS (mostP (fwL X)) (i + 1) = ((i : Int), (mostP (fwL X) i : Int)) := if_neg (by omega)
          simp only [List.set, iI_add]
          have h9 := ih (i + 1) _ (.int (iI (mostP (fwL X) i : Nat))) (.int (iI 19)) (by omega) (DF_131 (f := r1) hq)
          rw [e] at h9
          exact h9
        · rw [iI_lt (by omega)] at h145
          refine go_goto (tgt := 156) dX12_measure_148 (by decide) ?_
          refine go_iincI dX12_measure_156 rfl (Nat.le_of_ble_eq_true rfl) rfl ?_
          refine go_goto (tgt := 28) dX12_measure_159 (by decide) ?_
          have e : mmS (mostP (fwL X)) (i + 1) = mmS (mostP (fwL X)) i := if_pos (by omega)
          simp only [List.set, iI_add]
          rw [← e]
          exact ih (i + 1) _ _ _ (by omega) (DF_131 (f := r1) hq)
theorem ct_X12_measure {l : Launch} {D : va_G} {cA ad : Nat → Nat} {d : Nat} {σ : AS} {K : Option Value → AS → Prop} {X : XS} (hR : RO σ) (hK0 : XK X) (hC : MI σ X) (hK : ∀ τ, DF (xL X) σ τ → K (some (.int (iI (nxtA X)))) τ) : Call l D cA ad (d + 3) mX12_measure [.ref 111] σ K := by
  have hP7 := hK0.s.1
  have hQ9 := hK0.s.2.1
  refine call_go (by decide) (Nat.le_of_ble_eq_true rfl) (show Go l D cA ad (d + 3) mX12_measure 0 [.ref 111, .null, .null, .null, .null, .null] [] σ K from ?_)
  refine go_aload_n dX12_measure_0 rfl ?_
  refine go_iconst (v := iI 0) dX12_measure_1 (by decide) ?_
  refine go_putI fX12_96 rfl dX12_measure_2 rfl rfl rfl ?_
  have hq : DF (xL X) σ (sI σ 111 (upd (σ.1 111) 0 (iI 0))) := DF_f0 DF.rf
  have hR0 := hq.RO hR
  have hC0 := hC.q hK0 hq
  generalize sI σ 111 (upd (σ.1 111) 0 (iI 0)) = τ at hq hR0 hC0 ⊢
  refine go_aload_n dX12_measure_5 rfl ?_
  refine go_getI fX12_294 dX12_measure_6 rfl ?_
  refine go_if_eq (tgt := 20) dX12_measure_9 (by decide) (fun h9 => ?_) (fun h9 => ?_)
  · rw [hC0.2.1.1, iI_eq0 (by omega)] at h9
    refine go_iconst (v := iI (-1)) dX12_measure_20 (by decide) ?_
    refine go_iret rfl rfl dX12_measure_21 ?_
    have e : nxtA X = -1 := by unfold nxtA; rw [if_neg (by omega)]
    rw [e] at hK
    exact hK τ hq
  · rw [hC0.2.1.1, iI_eq0 (by omega)] at h9
    refine go_aload_n dX12_measure_12 rfl ?_
    refine go_iconst (v := iI (-1)) dX12_measure_13 (by decide) ?_
    refine go_callV (as := [_]) wX12_451 dX12_measure_14 rfl rfl rfl rfl (Nat.le_of_ble_eq_true rfl) (ct_X12_secret hR0 hK0 hC0 (by decide) (fun ρ hq2 => ?_))
    refine go_if_ne (tgt := 22) dX12_measure_17 (by decide) (fun h17 => ?_) (fun h17 => ?_)
    · have es : secA X (-1) = ((fwL X).length : Int) := by unfold secA; rw [if_pos (by omega), if_pos rfl]
      have hfl := fwL_len hK0
      rw [es, iI_eq0 (by omega)] at h17
      refine go_iconst (v := iI (-1)) dX12_measure_22 (by decide) ?_
      refine go_istore_n dX12_measure_23 (Nat.le_of_ble_eq_true rfl) rfl ?_
      refine go_iconst (v := iI 0) dX12_measure_24 (by decide) ?_
      refine go_istore_n dX12_measure_25 (Nat.le_of_ble_eq_true rfl) rfl ?_
      refine go_iconst (v := iI 0) dX12_measure_26 (by decide) ?_
      refine go_istore_n dX12_measure_27 (Nat.le_of_ble_eq_true rfl) rfl ?_
      have e := nxt_m hK0 (by omega)
      rw [if_neg (by omega)] at e
      rw [e] at hK
      simp only [List.set]
      exact me28 (hq2.RO hR0) hK0 (hC0.q hK0 hq2) (fun ψ h => hK ψ ((hq.tr hq2).tr h)) (nP (xs X)) 0 ρ _ _ (by omega) DF.rf
    · have es : secA X (-1) = ((fwL X).length : Int) := by unfold secA; rw [if_pos (by omega), if_pos rfl]
      have hfl := fwL_len hK0
      rw [es, iI_eq0 (by omega)] at h17
      refine go_iconst (v := iI (-1)) dX12_measure_20 (by decide) ?_
      refine go_iret rfl rfl dX12_measure_21 ?_
      have e := nxt_m hK0 (by omega)
      rw [if_pos (by omega)] at e
      rw [e] at hK
      exact hK ρ (hq.tr hq2)

