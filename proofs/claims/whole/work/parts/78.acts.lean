/-! acts of the class -/
abbrev can0 (s : PS) (w : WT) (a : Int) : Prop := 0 ≤ a ∧ a < nQ s ∧ bitb (opn w) a.toNat = false
abbrev can1 (s : PS) (w : WT) (a : Int) : Prop := 0 ≤ a ∧ a < nQ s ∧ bitb (opn w) a.toNat = true
abbrev can2 (s : PS) (w : WT) (a : Int) : Prop := 0 < nP s ∧ 1 ≤ a ∧ a + dy w ≤ 9999
abbrev can3 (s : PS) (w : WT) (a b : Int) : Prop := 0 ≤ a ∧ a < nP s ∧ 1 ≤ b ∧ wa w a.toNat + b ≤ pd s a.toNat 1
theorem FC.ofR {lo hi : Nat} {σ τ : AS} (h : Fr lo hi σ τ) (hh : hi < 111) : FC σ τ := ⟨by rw [h.1], fun k _ => by rw [h.1], fun k hk => h.2 k (by omega)⟩
theorem ct_canBe0 {l : Launch} {D : va_G} {cA ad : Nat → Nat} {d : Nat} {σ : AS} {K : Option Value → AS → Prop} {s : PS} {w : WT} {b : Nat} {x : Int} {v : Int32} (hR : RO σ) (hT : TwC σ s) (hS : TwK s) (hb : WB b) (hW : WC σ b w) (hw : WK s w) (hx32 : -2147483648 ≤ x ∧ x < 2147483648) (hK1 : can0 s w x → K (some (.int (iI 1))) σ) (hK0 : ¬ can0 s w x → K (some (.int (iI 0))) σ) : Call l D cA ad (d + 1) mX6_canBe [.ref 105, .int (iI 0), .int (iI x), .int v, .ref b] σ K := by
  have hP7 := hS.1
  have hQ9 := hS.2.1
  have hdy := hw.2.2.2
  refine call_go (by decide) (Nat.le_of_ble_eq_true rfl) (show Go l D cA ad (d + 1) mX6_canBe 0 [.ref 105, .int (iI 0), .int (iI x), .int v, .ref b] [] σ K from ?_)
  refine go_iload_n dX6_canBe_0 rfl ?_
  refine go_tabIn (off := 27) (tgt := 28) dX6_canBe_1 (by decide) (by decide) (by decide) (by decide) ?_
  refine go_aload_n dX6_canBe_28 rfl ?_
  refine go_getR fX6_22 dX6_canBe_29 rfl (hR _ _ _ rfl) ?_
  refine go_iload_n dX6_canBe_32 rfl ?_
  refine go_callV (as := [_]) wX6_52 dX6_canBe_33 rfl rfl rfl rfl (Nat.le_of_ble_eq_true rfl) (ct_hasPipe2 hx32 hT hS (fun n hn hnl => ?_) (fun hx => ?_))
  · refine go_if_eq (tgt := 52) dX6_canBe_36 (by decide) (fun h36 => ?_) (fun h36 => ?_)
    · exact absurd h36 (by decide)
    · subst hn
      refine go_aload dX6_canBe_39 rfl ?_
      refine go_iload_n dX6_canBe_41 rfl ?_
      refine go_callV (as := [_]) wX6_56 dX6_canBe_42 hb.1 rfl rfl rfl (Nat.le_of_ble_eq_true rfl) (ct_X10_isOpen hb hW (pw512 hS hw) (by omega) (fun h0 => ?_) (fun h1 => ?_))
      · refine go_if_ne (tgt := 52) dX6_canBe_45 (by decide) (fun h45 => ?_) (fun h45 => ?_)
        · exact absurd h45 (by decide)
        · refine go_iconst (v := iI 1) dX6_canBe_48 (by decide) ?_
          refine go_goto (tgt := 53) dX6_canBe_49 (by decide) ?_
          refine go_iret rfl rfl dX6_canBe_53 ?_
          exact hK1 ⟨by omega, by omega, by rw [Int.toNat_natCast]; exact h0⟩
      · refine go_if_ne (tgt := 52) dX6_canBe_45 (by decide) (fun h45 => ?_) (fun h45 => ?_)
        · refine go_iconst (v := iI 0) dX6_canBe_52 (by decide) ?_
          refine go_iret rfl rfl dX6_canBe_53 ?_
          exact hK0 (fun q => by have := q.2.2; rw [Int.toNat_natCast, h1] at this; cases this)
        · exact absurd h45 (by decide)
  · refine go_if_eq (tgt := 52) dX6_canBe_36 (by decide) (fun h36 => ?_) (fun h36 => ?_)
    · refine go_iconst (v := iI 0) dX6_canBe_52 (by decide) ?_
      refine go_iret rfl rfl dX6_canBe_53 ?_
      exact hK0 (fun q => hx ⟨q.1, q.2.1⟩)
    · exact absurd h36 (by decide)

theorem ct_canBe1 {l : Launch} {D : va_G} {cA ad : Nat → Nat} {d : Nat} {σ : AS} {K : Option Value → AS → Prop} {s : PS} {w : WT} {b : Nat} {x : Int} {v : Int32} (hR : RO σ) (hT : TwC σ s) (hS : TwK s) (hb : WB b) (hW : WC σ b w) (hw : WK s w) (hx32 : -2147483648 ≤ x ∧ x < 2147483648) (hK1 : can1 s w x → K (some (.int (iI 1))) σ) (hK0 : ¬ can1 s w x → K (some (.int (iI 0))) σ) : Call l D cA ad (d + 1) mX6_canBe [.ref 105, .int (iI 1), .int (iI x), .int v, .ref b] σ K := by
  have hP7 := hS.1
  have hQ9 := hS.2.1
  have hdy := hw.2.2.2
  refine call_go (by decide) (Nat.le_of_ble_eq_true rfl) (show Go l D cA ad (d + 1) mX6_canBe 0 [.ref 105, .int (iI 1), .int (iI x), .int v, .ref b] [] σ K from ?_)
  refine go_iload_n dX6_canBe_0 rfl ?_
  refine go_tabIn (off := 53) (tgt := 54) dX6_canBe_1 (by decide) (by decide) (by decide) (by decide) ?_
  refine go_aload_n dX6_canBe_54 rfl ?_
  refine go_getR fX6_22 dX6_canBe_55 rfl (hR _ _ _ rfl) ?_
  refine go_iload_n dX6_canBe_58 rfl ?_
  refine go_callV (as := [_]) wX6_52 dX6_canBe_59 rfl rfl rfl rfl (Nat.le_of_ble_eq_true rfl) (ct_hasPipe2 hx32 hT hS (fun n hn hnl => ?_) (fun hx => ?_))
  · refine go_if_eq (tgt := 78) dX6_canBe_62 (by decide) (fun h62 => ?_) (fun h62 => ?_)
    · exact absurd h62 (by decide)
    · subst hn
      refine go_aload dX6_canBe_65 rfl ?_
      refine go_iload_n dX6_canBe_67 rfl ?_
      refine go_callV (as := [_]) wX6_56 dX6_canBe_68 hb.1 rfl rfl rfl (Nat.le_of_ble_eq_true rfl) (ct_X10_isOpen hb hW (pw512 hS hw) (by omega) (fun h0 => ?_) (fun h1 => ?_))
      · refine go_if_eq (tgt := 78) dX6_canBe_71 (by decide) (fun h71 => ?_) (fun h71 => ?_)
        · refine go_iconst (v := iI 0) dX6_canBe_78 (by decide) ?_
          refine go_iret rfl rfl dX6_canBe_79 ?_
          exact hK0 (fun q => by have := q.2.2; rw [Int.toNat_natCast, h0] at this; cases this)
        · exact absurd h71 (by decide)
      · refine go_if_eq (tgt := 78) dX6_canBe_71 (by decide) (fun h71 => ?_) (fun h71 => ?_)
        · exact absurd h71 (by decide)
        · refine go_iconst (v := iI 1) dX6_canBe_74 (by decide) ?_
          refine go_goto (tgt := 79) dX6_canBe_75 (by decide) ?_
          refine go_iret rfl rfl dX6_canBe_79 ?_
          exact hK1 ⟨by omega, by omega, by rw [Int.toNat_natCast]; exact h1⟩
  · refine go_if_eq (tgt := 78) dX6_canBe_62 (by decide) (fun h62 => ?_) (fun h62 => ?_)
    · refine go_iconst (v := iI 0) dX6_canBe_78 (by decide) ?_
      refine go_iret rfl rfl dX6_canBe_79 ?_
      exact hK0 (fun q => hx ⟨q.1, q.2.1⟩)
    · exact absurd h62 (by decide)

theorem ct_canBe2 {l : Launch} {D : va_G} {cA ad : Nat → Nat} {d : Nat} {σ : AS} {K : Option Value → AS → Prop} {s : PS} {w : WT} {b : Nat} {x : Int} {v : Int32} (hR : RO σ) (hT : TwC σ s) (hS : TwK s) (hb : WB b) (hW : WC σ b w) (hw : WK s w) (hx32 : -2147483648 ≤ x ∧ x < 2147483648) (hK1 : can2 s w x → K (some (.int (iI 1))) σ) (hK0 : ¬ can2 s w x → K (some (.int (iI 0))) σ) : Call l D cA ad (d + 1) mX6_canBe [.ref 105, .int (iI 2), .int (iI x), .int v, .ref b] σ K := by
  have hP7 := hS.1
  have hQ9 := hS.2.1
  have hdy := hw.2.2.2
  refine call_go (by decide) (Nat.le_of_ble_eq_true rfl) (show Go l D cA ad (d + 1) mX6_canBe 0 [.ref 105, .int (iI 2), .int (iI x), .int v, .ref b] [] σ K from ?_)
  refine go_iload_n dX6_canBe_0 rfl ?_
  refine go_tabIn (off := 79) (tgt := 80) dX6_canBe_1 (by decide) (by decide) (by decide) (by decide) ?_
  refine go_aload_n dX6_canBe_80 rfl ?_
  refine go_getR fX6_22 dX6_canBe_81 rfl (hR _ _ _ rfl) ?_
  refine go_callV (as := []) wX6_59 dX6_canBe_84 rfl rfl rfl rfl (Nat.le_of_ble_eq_true rfl) (ct_told2 hT hS (fun hn => ?_) (fun hn => ?_))
  · refine go_if_eq (tgt := 112) dX6_canBe_87 (by decide) (fun h87 => ?_) (fun h87 => ?_)
    · exact absurd h87 (by decide)
    · refine go_iload_n dX6_canBe_90 rfl ?_
      refine go_iconst (v := iI 1) dX6_canBe_91 (by decide) ?_
      refine go_icmp_lt (tgt := 112) dX6_canBe_92 (by decide) (fun h92 => ?_) (fun h92 => ?_)
      · rw [iI_lt (by omega)] at h92
        refine go_iconst (v := iI 0) dX6_canBe_112 (by decide) ?_
        refine go_iret rfl rfl dX6_canBe_113 ?_
        exact hK0 (fun q => by omega)
      · rw [iI_lt (by omega)] at h92
        refine go_iload_n dX6_canBe_95 rfl ?_
        refine go_sipush (v := iI 9999) dX6_canBe_96 (by decide) ?_
        refine go_aload dX6_canBe_99 rfl ?_
        refine go_getI fX6_63 dX6_canBe_101 hb.1 ?_
        rw [hW.2.2.2]
        refine go_isub dX6_canBe_104 ?_
        rw [iI_sub]
        refine go_icmp_gt (tgt := 112) dX6_canBe_105 (by decide) (fun h105 => ?_) (fun h105 => ?_)
        · rw [iI_lt (by omega)] at h105
          refine go_iconst (v := iI 0) dX6_canBe_112 (by decide) ?_
          refine go_iret rfl rfl dX6_canBe_113 ?_
          exact hK0 (fun q => by omega)
        · rw [iI_lt (by omega)] at h105
          refine go_iconst (v := iI 1) dX6_canBe_108 (by decide) ?_
          refine go_goto (tgt := 113) dX6_canBe_109 (by decide) ?_
          refine go_iret rfl rfl dX6_canBe_113 ?_
          exact hK1 ⟨hn, by omega, by omega⟩
  · refine go_if_eq (tgt := 112) dX6_canBe_87 (by decide) (fun h87 => ?_) (fun h87 => ?_)
    · refine go_iconst (v := iI 0) dX6_canBe_112 (by decide) ?_
      refine go_iret rfl rfl dX6_canBe_113 ?_
      exact hK0 (fun q => by omega)
    · exact absurd h87 (by decide)

theorem ct_canBe3 {l : Launch} {D : va_G} {cA ad : Nat → Nat} {d : Nat} {σ : AS} {K : Option Value → AS → Prop} {s : PS} {w : WT} {b : Nat} {x : Int} {y : Int} (hR : RO σ) (hT : TwC σ s) (hS : TwK s) (hb : WB b) (hW : WC σ b w) (hw : WK s w) (hx32 : -2147483648 ≤ x ∧ x < 2147483648) (hy32 : -2147483648 ≤ y ∧ y < 2147483648) (hK1 : can3 s w x y → K (some (.int (iI 1))) σ) (hK0 : ¬ can3 s w x y → K (some (.int (iI 0))) σ) : Call l D cA ad (d + 1) mX6_canBe [.ref 105, .int (iI 3), .int (iI x), .int (iI y), .ref b] σ K := by
  have hP7 := hS.1
  have hQ9 := hS.2.1
  have hdy := hw.2.2.2
  refine call_go (by decide) (Nat.le_of_ble_eq_true rfl) (show Go l D cA ad (d + 1) mX6_canBe 0 [.ref 105, .int (iI 3), .int (iI x), .int (iI y), .ref b] [] σ K from ?_)
  refine go_iload_n dX6_canBe_0 rfl ?_
  refine go_tabOut (tgt := 114) dX6_canBe_1 (by decide) (by decide) ?_
  refine go_aload_n dX6_canBe_114 rfl ?_
  refine go_getR fX6_22 dX6_canBe_115 rfl (hR _ _ _ rfl) ?_
  refine go_iload_n dX6_canBe_118 rfl ?_
  refine go_callV (as := [_]) wX6_66 dX6_canBe_119 rfl rfl rfl rfl (Nat.le_of_ble_eq_true rfl) (ct_hasPond2 hx32 hT hS (fun n hn hnl => ?_) (fun hx => ?_))
  · refine go_if_eq (tgt := 157) dX6_canBe_122 (by decide) (fun h122 => ?_) (fun h122 => ?_)
    · exact absurd h122 (by decide)
    · subst hn
      have h7 := wk7 hS hw n
      have hpi := hS.2.2.2.1 n hnl
      unfold PdK at hpi
      refine go_iload_n dX6_canBe_125 rfl ?_
      refine go_iconst (v := iI 1) dX6_canBe_126 (by decide) ?_
      refine go_icmp_lt (tgt := 157) dX6_canBe_127 (by decide) (fun h127 => ?_) (fun h127 => ?_)
      · rw [iI_lt (by omega)] at h127
        refine go_iconst (v := iI 0) dX6_canBe_157 (by decide) ?_
        refine go_iret rfl rfl dX6_canBe_158 ?_
        exact hK0 (fun q => by have := q.2.2; rw [Int.toNat_natCast] at this; omega)
      · rw [iI_lt (by omega)] at h127
        refine go_iload_n dX6_canBe_130 rfl ?_
        refine go_aload_n dX6_canBe_131 rfl ?_
        refine go_getR fX6_22 dX6_canBe_132 rfl (hR _ _ _ rfl) ?_
        refine go_getR fX6_69 dX6_canBe_135 rfl (hR _ _ _ rfl) ?_
        refine go_iload_n dX6_canBe_138 rfl ?_
        refine go_aald dX6_canBe_139 rfl (by decide) (vp_iI (by omega)) (by rw [cl_n _ (by omega)]; exact hR _ _ _ (r25 _ (by omega)).2.2.1) ?_
        refine go_iconst (v := iI 1) dX6_canBe_140 (by decide) ?_
        refine go_iald dX6_canBe_141 (r25 _ (by omega)).2.2.2 (vp_iI (by decide)) ?_
        rw [show (iI 1).toNatClampNeg = 1 by decide, hT.2.2.2.1 n 1 hnl (by decide)]
        refine go_aload dX6_canBe_142 rfl ?_
        refine go_getR fX6_73 dX6_canBe_144 hb.1 (hR _ _ _ hb.2.2.2.2.1) ?_
        refine go_iload_n dX6_canBe_147 rfl ?_
        refine go_iald dX6_canBe_148 hb.2.1 (vp_iI (by omega)) ?_
        rw [cl_n _ (by omega), (hW.1 n (by omega)).1]
        refine go_isub dX6_canBe_149 ?_
        rw [iI_sub]
        refine go_icmp_gt (tgt := 157) dX6_canBe_150 (by decide) (fun h150 => ?_) (fun h150 => ?_)
        · rw [iI_lt (by omega)] at h150
          refine go_iconst (v := iI 0) dX6_canBe_157 (by decide) ?_
          refine go_iret rfl rfl dX6_canBe_158 ?_
          exact hK0 (fun q => by have := q.2.2; rw [Int.toNat_natCast] at this; omega)
        · rw [iI_lt (by omega)] at h150
          refine go_iconst (v := iI 1) dX6_canBe_153 (by decide) ?_
          refine go_goto (tgt := 158) dX6_canBe_154 (by decide) ?_
          refine go_iret rfl rfl dX6_canBe_158 ?_
          exact hK1 ⟨by omega, by omega, by omega, by rw [Int.toNat_natCast]; omega⟩
  · refine go_if_eq (tgt := 157) dX6_canBe_122 (by decide) (fun h122 => ?_) (fun h122 => ?_)
    · refine go_iconst (v := iI 0) dX6_canBe_157 (by decide) ?_
      refine go_iret rfl rfl dX6_canBe_158 ?_
      exact hK0 (fun q => hx ⟨q.1, q.2.1⟩)
    · exact absurd h122 (by decide)

theorem ct_remC {l : Launch} {D : va_G} {cA ad : Nat → Nat} {d : Nat} {σ : AS} {K : Option Value → AS → Prop} {X : XS} (hR : RO σ) (hK0 : XK X) (hC : CI σ X) (hK : ∀ τ, FC σ τ → CI τ (remX X) → K none τ) : Call l D cA ad (d + 2) mX0_remember [.ref 93, .ref 87, .ref 91] σ K :=
  ct_X0_remember hR hC.2.2.1 hC.2.2.2.1.1 hK0.a.1 hC.2.2.2.2.1 (fun τ fs hA => hK τ (FC.ofS fs (by decide)) (CI_rem hC hK0 fs hA))
theorem ct_dayC {l : Launch} {D : va_G} {cA ad : Nat → Nat} {d : Nat} {σ : AS} {K : Option Value → AS → Prop} {X : XS} {rain : Int} (hR : RO σ) (hK0 : XK X) (hC : CI σ X) (hd : HdX X) (hr : 0 ≤ rain ∧ rain ≤ 1000) (hK : ∀ τ, FC σ τ → CI τ (dayX X rain) → K none τ) : Call l D cA ad (d + 5) mX11_passDay [.ref 0, .int (iI rain)] σ K :=
  ct_X11_passDay hR hC.2.1 hK0.s hC.2.2.1 hK0.w hK0.L hC.2.2.2.2.2.2.2.1 hr (by have := hK0.d; omega) hC.2.2.2.1.1 (fun τ fs hW h1 h2 h3 => hK τ (FC.ofS fs (by decide)) (CI_day hC hK0 hd hr.1 fs hW h1 h2 h3))
def daysX : Nat → XS → XS
  | 0, X => X
  | n + 1, X => daysX n (dayX (remX X) (skv (xs X) 0))
theorem sk09 {X : XS} (h : XK X) : 0 ≤ skv (xs X) 0 ∧ skv (xs X) 0 ≤ 9 := h.s.2.2.1 0 (by decide)
theorem XK_rd {X : XS} (h : XK X) {rain : Int} (hr : 0 ≤ rain) (hd : dy (xw X) < 9999) : XK (dayX (remX X) rain) ∧ dy (xw (dayX (remX X) rain)) = dy (xw X) + 1 := ⟨XK_day (XK_rem h) (Hd_rem X) hr hd, (dayX_ok (XK_rem h) hr).2.2⟩
theorem XK_days : ∀ (n : Nat) (X : XS), XK X → dy (xw X) + n ≤ 9999 → XK (daysX n X) ∧ dy (xw (daysX n X)) = dy (xw X) + n ∧ xs (daysX n X) = xs X
  | 0, X, h, _ => ⟨h, rfl, rfl⟩
  | n + 1, X, h, hd => by
    have h1 := XK_rd h (sk09 h).1 (by omega)
    have h2 := XK_days n (dayX (remX X) (skv (xs X) 0)) h1.1 (by rw [h1.2]; omega)
    exact ⟨h2.1, by show dy (xw (daysX n _)) = _; rw [h2.2.1, h1.2]; omega, h2.2.2⟩
def opX (X : XS) (a : Int) : XS := setW (remX X) (setO (xw X) (opn (xw X) ||| 2 ^ a.toNat))
def csX (X : XS) (a : Int) : XS := setW (remX X) (setO (xw X) (clrB (opn (xw X)) a.toNat))
def poX (X : XS) (a b : Int) : XS := setW (remX X) (pourF (xw X) a.toNat b)
theorem clr_lt : ∀ n, n < 10 → ∀ j, j < n → ∀ m, m < 2 ^ n → clrB m j < 2 ^ n := by decide +kernel
theorem XK_op {X : XS} {a : Int} (h : XK X) (hc : can0 (xs X) (xw X) a) : XK (opX X a) := XK_set (XK_rem h) (show WK (xs X) _ from setO_ok h.w (or_lt _ (by have := h.s.2.1; omega) _ (by have := hc.1; have := hc.2.1; omega) _ h.w.2.2.1)) rfl
theorem XK_cl {X : XS} {a : Int} (h : XK X) (hc : can1 (xs X) (xw X) a) : XK (csX X a) := XK_set (XK_rem h) (show WK (xs X) _ from setO_ok h.w (clr_lt _ (by have := h.s.2.1; omega) _ (by have := hc.1; have := hc.2.1; omega) _ h.w.2.2.1)) rfl
theorem WK_po {s : PS} {w : WT} {a b : Int} (h : WK s w) (hc : can3 s w a b) : WK s (pourF w a.toNat b) := by
  refine ⟨fun i hi => ?_, fun i hi => ?_, h.2.2⟩
  · have h1 := h.1 i hi
    refine ⟨?_, ?_, h1.2.2⟩
    · show 0 ≤ setF _ _ _ i
      unfold setF; split
      · subst_vars; have := hc.2.2.1; have := (h.1 _ hi).1; omega
      · exact h1.1
    · show setF _ _ _ i ≤ _
      unfold setF; split
      · subst_vars; exact hc.2.2.2
      · exact h1.2.1
  · refine ⟨?_, (h.2.1 i hi).2⟩
    show setF _ _ _ i = 0
    unfold setF
    rw [if_neg (by have := hc.1; have := hc.2.1; omega)]
    exact (h.2.1 i hi).1
theorem XK_po {X : XS} {a b : Int} (h : XK X) (hc : can3 (xs X) (xw X) a b) : XK (poX X a b) := XK_set (XK_rem h) (WK_po h.w hc) rfl
theorem ct_act0 {l : Launch} {D : va_G} {cA ad : Nat → Nat} {d : Nat} {σ : AS} {K : Option Value → AS → Prop} {X : XS} {x : Int} {v : Int32} (hR : RO σ) (hK0 : XK X) (hC : CI σ X) (hx32 : -2147483648 ≤ x ∧ x < 2147483648) (hK1 : can0 (xs X) (xw X) x → ∀ τ, FC σ τ → CI τ (opX X x) → K (some (.int (iI 1))) τ) (hK2 : ¬ can0 (xs X) (xw X) x → K (some (.int (iI 0))) σ) : Call l D cA ad (d + 6) mX11_act [.ref 0, .int (iI 0), .int (iI x), .int v] σ K := by
  have hP7 := hK0.s.1
  have hQ9 := hK0.s.2.1
  refine call_go (by decide) (Nat.le_of_ble_eq_true rfl) (show Go l D cA ad (d + 6) mX11_act 0 [.ref 0, .int (iI 0), .int (iI x), .int v, .null] [] σ K from ?_)
  refine go_aload_n dX11_act_0 rfl ?_
  refine go_getR fX11_94 dX11_act_1 rfl (hR _ _ _ rfl) ?_
  refine go_iload_n dX11_act_4 rfl ?_
  refine go_iload_n dX11_act_5 rfl ?_
  refine go_iload_n dX11_act_6 rfl ?_
  refine go_aload_n dX11_act_7 rfl ?_
  refine go_getR fX11_58 dX11_act_8 rfl (hR _ _ _ rfl) ?_
  refine go_callV (as := [_, _, _, _]) wX11_195 dX11_act_11 rfl rfl rfl rfl (Nat.le_of_ble_eq_true rfl) (ct_canBe0 hR hC.2.1 hK0.s WB_87 hC.2.2.1 hK0.w hx32 (fun hc => ?_) (fun hc => ?_))
  · obtain ⟨n, rfl⟩ : ∃ n : Nat, x = n := ⟨x.toNat, by have := hc.1; omega⟩
    refine go_if_ne (tgt := 19) dX11_act_14 (by decide) (fun h14 => ?_) (fun h14 => ?_)
    · refine go_iload_n dX11_act_19 rfl ?_
      refine go_iconst (v := iI 2) dX11_act_20 (by decide) ?_
      refine go_icmp_eq (tgt := 51) dX11_act_21 (by decide) (fun h21 => ?_) (fun h21 => ?_)
      · exact absurd h21 (by decide)
      · refine go_aload_n dX11_act_24 rfl ?_
        refine go_getR fX11_72 dX11_act_25 rfl (hR _ _ _ rfl) ?_
        refine go_aload_n dX11_act_28 rfl ?_
        refine go_getR fX11_58 dX11_act_29 rfl (hR _ _ _ rfl) ?_
        refine go_aload_n dX11_act_32 rfl ?_
        refine go_getR fX11_65 dX11_act_33 rfl (hR _ _ _ rfl) ?_
        refine go_callV (as := [_, _]) wX11_188 dX11_act_36 rfl rfl rfl rfl (Nat.le_of_ble_eq_true rfl) (ct_remC hR hK0 hC (fun τ fc hC1 => ?_))
        have hR1 := fc.RO hR
        refine go_aload_n dX11_act_39 rfl ?_
        refine go_getR fX11_58 dX11_act_40 rfl (hR1 _ _ _ rfl) ?_
        refine go_iload_n dX11_act_43 rfl ?_
        refine go_iload_n dX11_act_44 rfl ?_
        refine go_iload_n dX11_act_45 rfl ?_
        refine go_callV (as := [_, _, _]) wX11_394 dX11_act_46 rfl rfl rfl rfl (Nat.le_of_ble_eq_true rfl) (ct_take0 hR1 WB_87 hC1.2.2.1 (pw512 hK0.s hK0.w) (by omega) (fun ρ fr hW => ?_))
        refine go_iconst (v := iI 1) dX11_act_49 (by decide) ?_
        refine go_iret rfl rfl dX11_act_50 ?_
        exact hK1 hc ρ (fc.tr (FC.ofR fr (by decide))) (CI_set hC1 (XK_rem hK0) fr hW rfl)
    · exact absurd h14 (by decide)
  · refine go_if_ne (tgt := 19) dX11_act_14 (by decide) (fun h14 => ?_) (fun h14 => ?_)
    · exact absurd h14 (by decide)
    · refine go_iconst (v := iI 0) dX11_act_17 (by decide) ?_
      refine go_iret rfl rfl dX11_act_18 ?_
      exact hK2 hc

theorem ct_act1 {l : Launch} {D : va_G} {cA ad : Nat → Nat} {d : Nat} {σ : AS} {K : Option Value → AS → Prop} {X : XS} {x : Int} {v : Int32} (hR : RO σ) (hK0 : XK X) (hC : CI σ X) (hx32 : -2147483648 ≤ x ∧ x < 2147483648) (hK1 : can1 (xs X) (xw X) x → ∀ τ, FC σ τ → CI τ (csX X x) → K (some (.int (iI 1))) τ) (hK2 : ¬ can1 (xs X) (xw X) x → K (some (.int (iI 0))) σ) : Call l D cA ad (d + 6) mX11_act [.ref 0, .int (iI 1), .int (iI x), .int v] σ K := by
  have hP7 := hK0.s.1
  have hQ9 := hK0.s.2.1
  refine call_go (by decide) (Nat.le_of_ble_eq_true rfl) (show Go l D cA ad (d + 6) mX11_act 0 [.ref 0, .int (iI 1), .int (iI x), .int v, .null] [] σ K from ?_)
  refine go_aload_n dX11_act_0 rfl ?_
  refine go_getR fX11_94 dX11_act_1 rfl (hR _ _ _ rfl) ?_
  refine go_iload_n dX11_act_4 rfl ?_
  refine go_iload_n dX11_act_5 rfl ?_
  refine go_iload_n dX11_act_6 rfl ?_
  refine go_aload_n dX11_act_7 rfl ?_
  refine go_getR fX11_58 dX11_act_8 rfl (hR _ _ _ rfl) ?_
  refine go_callV (as := [_, _, _, _]) wX11_195 dX11_act_11 rfl rfl rfl rfl (Nat.le_of_ble_eq_true rfl) (ct_canBe1 hR hC.2.1 hK0.s WB_87 hC.2.2.1 hK0.w hx32 (fun hc => ?_) (fun hc => ?_))
  · obtain ⟨n, rfl⟩ : ∃ n : Nat, x = n := ⟨x.toNat, by have := hc.1; omega⟩
    refine go_if_ne (tgt := 19) dX11_act_14 (by decide) (fun h14 => ?_) (fun h14 => ?_)
    · refine go_iload_n dX11_act_19 rfl ?_
      refine go_iconst (v := iI 2) dX11_act_20 (by decide) ?_
      refine go_icmp_eq (tgt := 51) dX11_act_21 (by decide) (fun h21 => ?_) (fun h21 => ?_)
      · exact absurd h21 (by decide)
      · refine go_aload_n dX11_act_24 rfl ?_
        refine go_getR fX11_72 dX11_act_25 rfl (hR _ _ _ rfl) ?_
        refine go_aload_n dX11_act_28 rfl ?_
        refine go_getR fX11_58 dX11_act_29 rfl (hR _ _ _ rfl) ?_
        refine go_aload_n dX11_act_32 rfl ?_
        refine go_getR fX11_65 dX11_act_33 rfl (hR _ _ _ rfl) ?_
        refine go_callV (as := [_, _]) wX11_188 dX11_act_36 rfl rfl rfl rfl (Nat.le_of_ble_eq_true rfl) (ct_remC hR hK0 hC (fun τ fc hC1 => ?_))
        have hR1 := fc.RO hR
        refine go_aload_n dX11_act_39 rfl ?_
        refine go_getR fX11_58 dX11_act_40 rfl (hR1 _ _ _ rfl) ?_
        refine go_iload_n dX11_act_43 rfl ?_
        refine go_iload_n dX11_act_44 rfl ?_
        refine go_iload_n dX11_act_45 rfl ?_
        refine go_callV (as := [_, _, _]) wX11_394 dX11_act_46 rfl rfl rfl rfl (Nat.le_of_ble_eq_true rfl) (ct_take1 hR1 WB_87 hC1.2.2.1 (pw512 hK0.s hK0.w) (by omega) (fun ρ fr hW => ?_))
        refine go_iconst (v := iI 1) dX11_act_49 (by decide) ?_
        refine go_iret rfl rfl dX11_act_50 ?_
        exact hK1 hc ρ (fc.tr (FC.ofR fr (by decide))) (CI_set hC1 (XK_rem hK0) fr hW rfl)
    · exact absurd h14 (by decide)
  · refine go_if_ne (tgt := 19) dX11_act_14 (by decide) (fun h14 => ?_) (fun h14 => ?_)
    · exact absurd h14 (by decide)
    · refine go_iconst (v := iI 0) dX11_act_17 (by decide) ?_
      refine go_iret rfl rfl dX11_act_18 ?_
      exact hK2 hc

theorem ct_act3 {l : Launch} {D : va_G} {cA ad : Nat → Nat} {d : Nat} {σ : AS} {K : Option Value → AS → Prop} {X : XS} {x : Int} {y : Int} (hR : RO σ) (hK0 : XK X) (hC : CI σ X) (hx32 : -2147483648 ≤ x ∧ x < 2147483648) (hy32 : -2147483648 ≤ y ∧ y < 2147483648) (hK1 : can3 (xs X) (xw X) x y → ∀ τ, FC σ τ → CI τ (poX X x y) → K (some (.int (iI 1))) τ) (hK2 : ¬ can3 (xs X) (xw X) x y → K (some (.int (iI 0))) σ) : Call l D cA ad (d + 6) mX11_act [.ref 0, .int (iI 3), .int (iI x), .int (iI y)] σ K := by
  have hP7 := hK0.s.1
  have hQ9 := hK0.s.2.1
  refine call_go (by decide) (Nat.le_of_ble_eq_true rfl) (show Go l D cA ad (d + 6) mX11_act 0 [.ref 0, .int (iI 3), .int (iI x), .int (iI y), .null] [] σ K from ?_)
  refine go_aload_n dX11_act_0 rfl ?_
  refine go_getR fX11_94 dX11_act_1 rfl (hR _ _ _ rfl) ?_
  refine go_iload_n dX11_act_4 rfl ?_
  refine go_iload_n dX11_act_5 rfl ?_
  refine go_iload_n dX11_act_6 rfl ?_
  refine go_aload_n dX11_act_7 rfl ?_
  refine go_getR fX11_58 dX11_act_8 rfl (hR _ _ _ rfl) ?_
  refine go_callV (as := [_, _, _, _]) wX11_195 dX11_act_11 rfl rfl rfl rfl (Nat.le_of_ble_eq_true rfl) (ct_canBe3 hR hC.2.1 hK0.s WB_87 hC.2.2.1 hK0.w hx32 hy32 (fun hc => ?_) (fun hc => ?_))
  · obtain ⟨n, rfl⟩ : ∃ n : Nat, x = n := ⟨x.toNat, by have := hc.1; omega⟩
    refine go_if_ne (tgt := 19) dX11_act_14 (by decide) (fun h14 => ?_) (fun h14 => ?_)
    · refine go_iload_n dX11_act_19 rfl ?_
      refine go_iconst (v := iI 2) dX11_act_20 (by decide) ?_
      refine go_icmp_eq (tgt := 51) dX11_act_21 (by decide) (fun h21 => ?_) (fun h21 => ?_)
      · exact absurd h21 (by decide)
      · refine go_aload_n dX11_act_24 rfl ?_
        refine go_getR fX11_72 dX11_act_25 rfl (hR _ _ _ rfl) ?_
        refine go_aload_n dX11_act_28 rfl ?_
        refine go_getR fX11_58 dX11_act_29 rfl (hR _ _ _ rfl) ?_
        refine go_aload_n dX11_act_32 rfl ?_
        refine go_getR fX11_65 dX11_act_33 rfl (hR _ _ _ rfl) ?_
        refine go_callV (as := [_, _]) wX11_188 dX11_act_36 rfl rfl rfl rfl (Nat.le_of_ble_eq_true rfl) (ct_remC hR hK0 hC (fun τ fc hC1 => ?_))
        have hR1 := fc.RO hR
        refine go_aload_n dX11_act_39 rfl ?_
        refine go_getR fX11_58 dX11_act_40 rfl (hR1 _ _ _ rfl) ?_
        refine go_iload_n dX11_act_43 rfl ?_
        refine go_iload_n dX11_act_44 rfl ?_
        refine go_iload_n dX11_act_45 rfl ?_
        refine go_callV (as := [_, _, _]) wX11_394 dX11_act_46 rfl rfl rfl rfl (Nat.le_of_ble_eq_true rfl) (ct_take3 hR1 WB_87 hC1.2.2.1 (by omega) (fun ρ fr hW => ?_))
        refine go_iconst (v := iI 1) dX11_act_49 (by decide) ?_
        refine go_iret rfl rfl dX11_act_50 ?_
        exact hK1 hc ρ (fc.tr (FC.ofR fr (by decide))) (CI_set hC1 (XK_rem hK0) fr hW rfl)
    · exact absurd h14 (by decide)
  · refine go_if_ne (tgt := 19) dX11_act_14 (by decide) (fun h14 => ?_) (fun h14 => ?_)
    · exact absurd h14 (by decide)
    · refine go_iconst (v := iI 0) dX11_act_17 (by decide) ?_
      refine go_iret rfl rfl dX11_act_18 ?_
      exact hK2 hc

theorem ac54 {l : Launch} {D : va_G} {cA ad : Nat → Nat} {d : Nat} {σ : AS} {K : Option Value → AS → Prop} {X1 : XS} {v : Int32} {n : Nat} (hn : n ≤ 9999) (hR : RO σ) (hK : ∀ τ, FC σ τ → CI τ X1 → K (some (.int (iI 1))) τ) : ∀ (r i : Nat) (Y : XS) (τ : AS), r + i = n → FC σ τ → CI τ Y → XK Y → dy (xw Y) + r ≤ 9999 → daysX r Y = X1 → Go l D cA ad (d + 6) mX11_act 54 [.ref 0, .int (iI 2), .int (iI n), .int v, .int (iI i)] [] τ K := by
  intro r
  induction r using Nat.strongRecOn with
  | ind r ih =>
  intro i Y τ hri hf hCY hKY hd hY
  refine go_iload dX11_act_54 rfl ?_
  refine go_iload_n dX11_act_56 rfl ?_
  refine go_icmp_ge (tgt := 94) dX11_act_57 (by decide) (fun h57 => ?_) (fun h57 => ?_)
  · rw [iI_le (by omega)] at h57
    refine go_iconst (v := iI 1) dX11_act_94 (by decide) ?_
    refine go_iret rfl rfl dX11_act_95 ?_
    obtain rfl : r = 0 := by omega
    have e1 : Y = X1 := hY
    subst e1
    exact hK τ hf hCY
  · rw [iI_le (by omega)] at h57
    refine go_aload_n dX11_act_60 rfl ?_
    refine go_getR fX11_72 dX11_act_61 rfl (hf.RO hR _ _ _ rfl) ?_
    refine go_aload_n dX11_act_64 rfl ?_
    refine go_getR fX11_58 dX11_act_65 rfl (hf.RO hR _ _ _ rfl) ?_
    refine go_aload_n dX11_act_68 rfl ?_
    refine go_getR fX11_65 dX11_act_69 rfl (hf.RO hR _ _ _ rfl) ?_
    refine go_callV (as := [_, _]) wX11_188 dX11_act_72 rfl rfl rfl rfl (Nat.le_of_ble_eq_true rfl) (ct_remC (hf.RO hR) hKY hCY (fun ρ fc hC1 => ?_))
    refine go_aload_n dX11_act_75 rfl ?_
    refine go_aload_n dX11_act_76 rfl ?_
    refine go_getR fX11_19 dX11_act_77 rfl (fc.RO (hf.RO hR) _ _ _ rfl) ?_
    refine go_getR fX11_138 dX11_act_80 rfl (fc.RO (hf.RO hR) _ _ _ rfl) ?_
    refine go_iconst (v := iI 0) dX11_act_83 (by decide) ?_
    refine go_iald dX11_act_84 rfl (vp_iI (by decide)) ?_
    rw [cl_0, hC1.2.1.2.2.1 0 (by decide), show skv (xs (remX Y)) 0 = skv (xs Y) 0 from rfl]
    refine go_callV (as := [_]) wX11_206 dX11_act_85 rfl rfl rfl rfl (Nat.le_of_ble_eq_true rfl) (ct_dayC (fc.RO (hf.RO hR)) (XK_rem hKY) hC1 (Hd_rem Y) (by have := sk09 hKY; omega) (fun ψ fd hC2 => ?_))
    refine go_iincI dX11_act_88 rfl (Nat.le_of_ble_eq_true rfl) rfl ?_
    refine go_goto (tgt := 54) dX11_act_91 (by decide) ?_
    obtain ⟨r, rfl⟩ : ∃ q, r = q + 1 := ⟨r - 1, by omega⟩
    have hx := XK_rd hKY (sk09 hKY).1 (by omega)
    simp only [List.set, iI_add]
    exact ih r (by omega) (i + 1) _ _ (by omega) ((hf.tr fc).tr fd) hC2 hx.1 (by rw [hx.2]; omega) hY
theorem ct_act2 {l : Launch} {D : va_G} {cA ad : Nat → Nat} {d : Nat} {σ : AS} {K : Option Value → AS → Prop} {X : XS} {x : Int} {v : Int32} (hR : RO σ) (hK0 : XK X) (hC : CI σ X) (hx32 : -2147483648 ≤ x ∧ x < 2147483648) (hK1 : can2 (xs X) (xw X) x → ∀ τ, FC σ τ → CI τ (daysX x.toNat X) → K (some (.int (iI 1))) τ) (hK2 : ¬ can2 (xs X) (xw X) x → K (some (.int (iI 0))) σ) : Call l D cA ad (d + 6) mX11_act [.ref 0, .int (iI 2), .int (iI x), .int v] σ K := by
  have hP7 := hK0.s.1
  have hQ9 := hK0.s.2.1
  refine call_go (by decide) (Nat.le_of_ble_eq_true rfl) (show Go l D cA ad (d + 6) mX11_act 0 [.ref 0, .int (iI 2), .int (iI x), .int v, .null] [] σ K from ?_)
  refine go_aload_n dX11_act_0 rfl ?_
  refine go_getR fX11_94 dX11_act_1 rfl (hR _ _ _ rfl) ?_
  refine go_iload_n dX11_act_4 rfl ?_
  refine go_iload_n dX11_act_5 rfl ?_
  refine go_iload_n dX11_act_6 rfl ?_
  refine go_aload_n dX11_act_7 rfl ?_
  refine go_getR fX11_58 dX11_act_8 rfl (hR _ _ _ rfl) ?_
  refine go_callV (as := [_, _, _, _]) wX11_195 dX11_act_11 rfl rfl rfl rfl (Nat.le_of_ble_eq_true rfl) (ct_canBe2 hR hC.2.1 hK0.s WB_87 hC.2.2.1 hK0.w hx32 (fun hc => ?_) (fun hc => ?_))
  · obtain ⟨n, rfl⟩ : ∃ n : Nat, x = n := ⟨x.toNat, by omega⟩
    refine go_if_ne (tgt := 19) dX11_act_14 (by decide) (fun h14 => ?_) (fun h14 => ?_)
    · refine go_iload_n dX11_act_19 rfl ?_
      refine go_iconst (v := iI 2) dX11_act_20 (by decide) ?_
      refine go_icmp_eq (tgt := 51) dX11_act_21 (by decide) (fun h21 => ?_) (fun h21 => ?_)
      · refine go_iconst (v := iI 0) dX11_act_51 (by decide) ?_
        refine go_istore dX11_act_52 (Nat.le_of_ble_eq_true rfl) rfl ?_
        simp only [List.set]
        exact ac54 (X1 := daysX n X) (by omega) hR (hK1 hc) n 0 X σ (by omega) FC.rf hC hK0 (by omega) rfl
      · exact absurd h21 (by decide)
    · exact absurd h14 (by decide)
  · refine go_if_ne (tgt := 19) dX11_act_14 (by decide) (fun h14 => ?_) (fun h14 => ?_)
    · exact absurd h14 (by decide)
    · refine go_iconst (v := iI 0) dX11_act_17 (by decide) ?_
      refine go_iret rfl rfl dX11_act_18 ?_
      exact hK2 hc

