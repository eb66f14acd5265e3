/-! pond: the answer, the class's returning road, the model -/
def pondK (X : XS) (p w : Int) : Prop := (0 ≤ p ∧ p < nP (xs X)) ∧ 0 ≤ w ∧ w ≤ 9
def pondA (X : XS) (p w : Int) : Int := if w = 0 then wa (xw X) p.toNat else if w = 7 then ca (xw X) p.toNat else if w = 8 then pk (xw X) p.toNat else if w = 9 then lev (xs X) (xw X) p.toNat else pd (xs X) p.toNat w.toNat
theorem tabP1 : ∀ n : Nat, n < 10 → ¬ n = 0 → ¬ n = 7 → ¬ n = 8 → ¬ n = 9 → (#[54, 106, 106, 106, 106, 106, 106, 64, 74, 84] : Array Int)[n]? = some 106 := by
  intro n h1 h2 h3 h4 h5
  have : n = 1 ∨ n = 2 ∨ n = 3 ∨ n = 4 ∨ n = 5 ∨ n = 6 := by omega
  rcases this with rfl | rfl | rfl | rfl | rfl | rfl <;> rfl
theorem tabP2 : ∀ n : Nat, n < 10 → ¬ n = 0 → ¬ n = 7 → ¬ n = 8 → ¬ n = 9 → (#[53, 94, 94, 94, 94, 94, 94, 62, 73, 84] : Array Int)[n]? = some 94 := by
  intro n h1 h2 h3 h4 h5
  have : n = 1 ∨ n = 2 ∨ n = 3 ∨ n = 4 ∨ n = 5 ∨ n = 6 := by omega
  rcases this with rfl | rfl | rfl | rfl | rfl | rfl <;> rfl
theorem ct_X11_pond {l : Launch} {D : va_G} {cA ad : Nat → Nat} {d : Nat} {σ : AS} {K : Option Value → AS → Prop} {X : XS} {p w : Int} (hR : RO σ) (hK0 : XK X) (hC : CI σ X) (hp32 : -2147483648 ≤ p ∧ p < 2147483648) (hok : pondK X p w) (hK : K (some (.int (iI (pondA X p w)))) σ) : Call l D cA ad (d + 1) mX11_pond [.ref 0, .int (iI p), .int (iI w)] σ K := by
  have hP7 := hK0.s.1
  obtain ⟨hok1, hw0, hw9⟩ := hok
  obtain ⟨n, rfl⟩ : ∃ n : Nat, w = n := ⟨w.toNat, by omega⟩
  have hT := hC.2.1
  have hW := hC.2.2.1
  refine call_go (by decide) (Nat.le_of_ble_eq_true rfl) (show Go l D cA ad (d + 1) mX11_pond 0 [.ref 0, .int (iI p), .int (iI n)] [] σ K from ?_)
  refine go_aload_n dX11_pond_0 rfl ?_
  refine go_getR fX11_19 dX11_pond_1 rfl (hR _ _ _ rfl) ?_
  refine go_iload_n dX11_pond_4 rfl ?_
  refine go_callV (as := [_]) wX11_142 dX11_pond_5 rfl rfl rfl rfl (Nat.le_of_ble_eq_true rfl) (ct_hasPond2 hp32 hC.2.1 hK0.s (fun i hie hil => ?_) (fun hx => absurd hok1 hx))
  subst hie
  refine go_if_eq (tgt := 21) dX11_pond_8 (by decide) (fun h8 => absurd h8 (by decide)) (fun h8 => ?_)
  refine go_iload_n dX11_pond_11 rfl ?_
  refine go_if_lt (tgt := 21) dX11_pond_12 (by decide) (fun h12 => ?_) (fun h12 => ?_)
  · rw [iI_lt0 (by omega)] at h12; omega
  refine go_iload_n dX11_pond_15 rfl ?_
  refine go_bipush (v := iI 9) dX11_pond_16 (by decide) ?_
  refine go_icmp_le (tgt := 29) dX11_pond_18 (by decide) (fun h18 => ?_) (fun h18 => ?_)
  rotate_left
  · rw [iI_le (by omega)] at h18; omega
  refine go_iload_n dX11_pond_29 rfl ?_
  unfold pondA at hK
  rw [Int.toNat_natCast] at hK
  by_cases h0 : n = 0
  · subst h0
    rw [if_pos (by decide)] at hK
    refine go_tabIn (off := 54) (tgt := 84) dX11_pond_30 (by decide) (by decide) (by decide) (by decide) ?_
    refine go_aload_n dX11_pond_84 rfl ?_
    refine go_getR fX11_58 dX11_pond_85 rfl (hR _ _ _ rfl) ?_
    refine go_getR fX11_149 dX11_pond_88 rfl (hR _ _ _ rfl) ?_
    refine go_iload_n dX11_pond_91 rfl ?_
    refine go_iald dX11_pond_92 rfl (vp_iI (by omega)) ?_
    rw [cl_n _ (by omega), (hW.1 i (by omega)).1]
    refine go_iret rfl rfl dX11_pond_93 hK
  rw [if_neg (by omega)] at hK
  by_cases h7 : n = 7
  · subst h7
    rw [if_pos (by decide)] at hK
    refine go_tabIn (off := 64) (tgt := 94) dX11_pond_30 (by decide) (by decide) (by decide) (by decide) ?_
    refine go_aload_n dX11_pond_94 rfl ?_
    refine go_getR fX11_58 dX11_pond_95 rfl (hR _ _ _ rfl) ?_
    refine go_getR fX11_152 dX11_pond_98 rfl (hR _ _ _ rfl) ?_
    refine go_iload_n dX11_pond_101 rfl ?_
    refine go_iald dX11_pond_102 rfl (vp_iI (by omega)) ?_
    rw [cl_n _ (by omega), (hW.1 i (by omega)).2.1]
    refine go_iret rfl rfl dX11_pond_103 hK
  rw [if_neg (by omega)] at hK
  by_cases h8' : n = 8
  · subst h8'
    rw [if_pos (by decide)] at hK
    refine go_tabIn (off := 74) (tgt := 104) dX11_pond_30 (by decide) (by decide) (by decide) (by decide) ?_
    refine go_aload_n dX11_pond_104 rfl ?_
    refine go_getR fX11_58 dX11_pond_105 rfl (hR _ _ _ rfl) ?_
    refine go_getR fX11_155 dX11_pond_108 rfl (hR _ _ _ rfl) ?_
    refine go_iload_n dX11_pond_111 rfl ?_
    refine go_iald dX11_pond_112 rfl (vp_iI (by omega)) ?_
    rw [cl_n _ (by omega), (hW.1 i (by omega)).2.2]
    refine go_iret rfl rfl dX11_pond_113 hK
  rw [if_neg (by omega)] at hK
  by_cases h9 : n = 9
  · subst h9
    rw [if_pos (by decide)] at hK
    refine go_tabIn (off := 84) (tgt := 114) dX11_pond_30 (by decide) (by decide) (by decide) (by decide) ?_
    refine go_aload_n dX11_pond_114 rfl ?_
    refine go_getR fX11_19 dX11_pond_115 rfl (hR _ _ _ rfl) ?_
    refine go_getR fX11_158 dX11_pond_118 rfl (hR _ _ _ rfl) ?_
    refine go_iload_n dX11_pond_121 rfl ?_
    refine go_aald dX11_pond_122 rfl (by decide) (vp_iI (by omega)) (by rw [cl_n _ (by omega)]; exact hR _ _ _ (r25 _ (by omega)).2.2.1) ?_
    refine go_iconst (v := iI 2) dX11_pond_123 (by decide) ?_
    refine go_iald dX11_pond_124 (r25 i (by omega)).2.2.2 (vp_iI (by decide)) ?_
    rw [show (iI 2).toNatClampNeg = 2 by decide, hT.2.2.2.1 i 2 hil (by decide)]
    refine go_aload_n dX11_pond_125 rfl ?_
    refine go_getR fX11_58 dX11_pond_126 rfl (hR _ _ _ rfl) ?_
    refine go_getR fX11_149 dX11_pond_129 rfl (hR _ _ _ rfl) ?_
    refine go_iload_n dX11_pond_132 rfl ?_
    refine go_iald dX11_pond_133 rfl (vp_iI (by omega)) ?_
    rw [cl_n _ (by omega), (hW.1 i (by omega)).1]
    refine go_iadd dX11_pond_134 ?_
    rw [iI_add]
    refine go_iret rfl rfl dX11_pond_135 hK
  rw [if_neg (by omega), Int.toNat_natCast] at hK
  refine go_tabIn (off := 106) (tgt := 136) dX11_pond_30 (by rw [iI_toInt (by omega) (by omega)]; omega) (by rw [iI_toInt (by omega) (by omega)]; omega) (by rw [iI_toInt (by omega) (by omega)]; exact tabP1 n (by omega) h0 h7 h8' h9) (by decide) ?_
  refine go_aload_n dX11_pond_136 rfl ?_
  refine go_getR fX11_19 dX11_pond_137 rfl (hR _ _ _ rfl) ?_
  refine go_getR fX11_158 dX11_pond_140 rfl (hR _ _ _ rfl) ?_
  refine go_iload_n dX11_pond_143 rfl ?_
  refine go_aald dX11_pond_144 rfl (by decide) (vp_iI (by omega)) (by rw [cl_n _ (by omega)]; exact hR _ _ _ (r25 _ (by omega)).2.2.1) ?_
  refine go_iload_n dX11_pond_145 rfl ?_
  refine go_iald dX11_pond_146 (r25 i (by omega)).2.2.2 (vp_iI (by omega)) ?_
  rw [cl_n _ (by omega), hT.2.2.2.1 i n hil (by omega)]
  refine go_iret rfl rfl dX11_pond_147 hK
theorem ct_X12_thrown {l : Launch} {D : va_G} {cA ad : Nat → Nat} {d : Nat} {σ : AS} {K : Option Value → AS → Prop} (hK : K (some (.int (σ.1 111 0))) σ) : Call l D cA ad d mX12_thrown [.ref 111] σ K := by
  refine call_go (by decide) (Nat.le_of_ble_eq_true rfl) (show Go l D cA ad d mX12_thrown 0 [.ref 111] [] σ K from ?_)
  refine go_aload_n dX12_thrown_0 rfl ?_
  refine go_getI fX12_96 dX12_thrown_1 rfl ?_
  exact go_iret rfl rfl dX12_thrown_4 hK
theorem ct_X12_pond {l : Launch} {D : va_G} {cA ad : Nat → Nat} {d : Nat} {σ : AS} {K : Option Value → AS → Prop} {X : XS} {p w : Int} (hR : RO σ) (hK0 : XK X) (hC : MI σ X) (hp32 : -2147483648 ≤ p ∧ p < 2147483648) (hw32 : -2147483648 ≤ w ∧ w < 2147483648)
    (hK1 : pondK X p w → ∀ τ, DF (xL X) σ τ → τ.1 111 0 = iI 0 → K (some (.int (iI (pondA X p w)))) τ) (hK2 : ¬ pondK X p w → ∀ τ, DF (xL X) σ τ → τ.1 111 0 = iI 1 → K (some (.int (iI 0))) τ) : Call l D cA ad (d + 2) mX12_pond [.ref 111, .int (iI p), .int (iI w)] σ K := by
  have hP7 := hK0.s.1
  refine call_go (by decide) (Nat.le_of_ble_eq_true rfl) (show Go l D cA ad (d + 2) mX12_pond 0 [.ref 111, .int (iI p), .int (iI w)] [] σ K from ?_)
  have bad : ¬ pondK X p w → Go l D cA ad (d + 2) mX12_pond 26 [.ref 111, .int (iI p), .int (iI w)] [.int (iI 1), .ref 111] σ K := by
    intro hno
    refine go_putI fX12_96 rfl dX12_pond_26 rfl rfl rfl ?_
    have hq : DF (xL X) σ (sI σ 111 (upd (σ.1 111) 0 (iI 1))) := DF_f0 DF.rf
    have he : (sI σ 111 (upd (σ.1 111) 0 (iI 1))).1 111 0 = iI 1 := by simp [sI, upd]
    generalize sI σ 111 (upd (σ.1 111) 0 (iI 1)) = τ at hq he ⊢
    refine go_aload_n dX12_pond_29 rfl ?_
    refine go_getI fX12_96 dX12_pond_30 rfl ?_
    rw [he]
    refine go_if_le (tgt := 38) dX12_pond_33 (by decide) (fun h => absurd h (by decide)) (fun h => ?_)
    refine go_iconst (v := iI 0) dX12_pond_36 (by decide) ?_
    exact go_iret rfl rfl dX12_pond_37 (hK2 hno τ hq he)
  refine go_aload_n dX12_pond_0 rfl ?_
  refine go_aload_n dX12_pond_1 rfl ?_
  refine go_iload_n dX12_pond_2 rfl ?_
  refine go_callV (as := [_]) wX12_364 dX12_pond_3 rfl rfl rfl rfl (Nat.le_of_ble_eq_true rfl) (ct_isPond2 hp32 hC.2.1 hK0.s (fun i hie hil => ?_) (fun hx => ?_))
  rotate_left
  · refine go_if_eq (tgt := 25) dX12_pond_6 (by decide) (fun h6 => ?_) (fun h6 => absurd rfl h6)
    refine go_iconst (v := iI 1) dX12_pond_25 (by decide) ?_
    exact bad (fun h => hx h.1)
  refine go_if_eq (tgt := 25) dX12_pond_6 (by decide) (fun h6 => absurd h6 (by decide)) (fun h6 => ?_)
  refine go_iload_n dX12_pond_9 rfl ?_
  refine go_i2l dX12_pond_10 ?_
  rw [i2l_iI (by omega)]
  refine go_lconst (v := 0) dX12_pond_11 (by decide) ?_
  refine go_ldc2 lX12_367 dX12_pond_12 ?_
  refine go_callS (as := [_, _, _]) wX12_217 dX12_pond_15 rfl rfl (Nat.le_of_ble_eq_true rfl) (ct_isIn2 (x := 0) (y := 9) (by decide) (by decide) (by omega) (fun hi => ?_) (fun hi => ?_))
  rotate_left
  · refine go_if_eq (tgt := 25) dX12_pond_18 (by decide) (fun h18 => ?_) (fun h18 => absurd rfl h18)
    refine go_iconst (v := iI 1) dX12_pond_25 (by decide) ?_
    exact bad (fun h => hi h.2)
  refine go_if_eq (tgt := 25) dX12_pond_18 (by decide) (fun h18 => absurd h18 (by decide)) (fun h18 => ?_)
  refine go_iconst (v := iI 0) dX12_pond_21 (by decide) ?_
  refine go_goto (tgt := 26) dX12_pond_22 (by decide) ?_
  refine go_putI fX12_96 rfl dX12_pond_26 rfl rfl rfl ?_
  have hq : DF (xL X) σ (sI σ 111 (upd (σ.1 111) 0 (iI 0))) := DF_f0 DF.rf
  have he : (sI σ 111 (upd (σ.1 111) 0 (iI 0))).1 111 0 = iI 0 := by simp [sI, upd]
  have hR0 := hq.RO hR
  have hC0 := hC.q hK0 hq
  generalize sI σ 111 (upd (σ.1 111) 0 (iI 0)) = τ at hq he hR0 hC0 ⊢
  refine go_aload_n dX12_pond_29 rfl ?_
  refine go_getI fX12_96 dX12_pond_30 rfl ?_
  rw [he]
  refine go_if_le (tgt := 38) dX12_pond_33 (by decide) (fun h => ?_) (fun h => absurd (by decide) h)
  obtain ⟨n, rfl⟩ : ∃ n : Nat, w = n := ⟨w.toNat, by omega⟩
  subst hie
  have hK := hK1 ⟨by omega, hi⟩ τ hq he
  have hW : WM τ 124 (xw X) := WM_R.mpr hC0.2.2.1.1
  have hT := hC0.2.1
  unfold pondA at hK
  rw [Int.toNat_natCast] at hK
  refine go_iload_n dX12_pond_38 rfl ?_
  by_cases h0 : n = 0
  · subst h0
    rw [if_pos (by decide)] at hK
    refine go_tabIn (off := 53) (tgt := 92) dX12_pond_39 (by decide) (by decide) (by decide) (by decide) ?_
    refine go_aload_n dX12_pond_92 rfl ?_
    refine go_getR fX12_61 dX12_pond_93 rfl (hR0 _ _ _ rfl) ?_
    refine go_iload_n dX12_pond_96 rfl ?_
    refine go_callS (as := [_, _]) wX12_312 dX12_pond_97 rfl rfl (Nat.le_of_ble_eq_true rfl) (ct_X12_water rfl hW (by omega) ?_)
    exact go_iret rfl rfl dX12_pond_100 hK
  rw [if_neg (by omega)] at hK
  by_cases h7 : n = 7
  · subst h7
    rw [if_pos (by decide)] at hK
    refine go_tabIn (off := 62) (tgt := 101) dX12_pond_39 (by decide) (by decide) (by decide) (by decide) ?_
    refine go_aload_n dX12_pond_101 rfl ?_
    refine go_getR fX12_61 dX12_pond_102 rfl (hR0 _ _ _ rfl) ?_
    refine go_iconst (v := iI 3) dX12_pond_105 (by decide) ?_
    refine go_iload_n dX12_pond_106 rfl ?_
    refine go_imul dX12_pond_107 ?_
    refine go_iconst (v := iI 1) dX12_pond_108 (by decide) ?_
    refine go_iadd dX12_pond_109 ?_
    rw [iI_mul, iI_add]
    refine go_iald dX12_pond_110 rfl (vp_iI (by omega)) ?_
    rw [iI_cl (by omega), show ((3 * (i : Int) + 1).toNat) = 3 * i + 1 by omega, (hW.1 i (by omega)).2.1]
    exact go_iret rfl rfl dX12_pond_111 hK
  rw [if_neg (by omega)] at hK
  by_cases h8' : n = 8
  · subst h8'
    rw [if_pos (by decide)] at hK
    refine go_tabIn (off := 73) (tgt := 112) dX12_pond_39 (by decide) (by decide) (by decide) (by decide) ?_
    refine go_aload_n dX12_pond_112 rfl ?_
    refine go_getR fX12_61 dX12_pond_113 rfl (hR0 _ _ _ rfl) ?_
    refine go_iconst (v := iI 3) dX12_pond_116 (by decide) ?_
    refine go_iload_n dX12_pond_117 rfl ?_
    refine go_imul dX12_pond_118 ?_
    refine go_iconst (v := iI 2) dX12_pond_119 (by decide) ?_
    refine go_iadd dX12_pond_120 ?_
    rw [iI_mul, iI_add]
    refine go_iald dX12_pond_121 rfl (vp_iI (by omega)) ?_
    rw [iI_cl (by omega), show ((3 * (i : Int) + 2).toNat) = 3 * i + 2 by omega, (hW.1 i (by omega)).2.2]
    exact go_iret rfl rfl dX12_pond_122 hK
  rw [if_neg (by omega)] at hK
  by_cases h9 : n = 9
  · subst h9
    rw [if_pos (by decide)] at hK
    refine go_tabIn (off := 84) (tgt := 123) dX12_pond_39 (by decide) (by decide) (by decide) (by decide) ?_
    refine go_aload_n dX12_pond_123 rfl ?_
    refine go_aload_n dX12_pond_124 rfl ?_
    refine go_getR fX12_61 dX12_pond_125 rfl (hR0 _ _ _ rfl) ?_
    refine go_iload_n dX12_pond_128 rfl ?_
    refine go_callV (as := [_, _]) wX12_316 dX12_pond_129 rfl rfl rfl rfl (Nat.le_of_ble_eq_true rfl) (ct_X12_level hR0 hT hK0.s rfl hW hil ?_)
    exact go_iret rfl rfl dX12_pond_132 hK
  rw [if_neg (by omega), Int.toNat_natCast] at hK
  refine go_tabIn (off := 94) (tgt := 133) dX12_pond_39 (by rw [iI_toInt (by omega) (by omega)]; omega) (by rw [iI_toInt (by omega) (by omega)]; omega) (by rw [iI_toInt (by omega) (by omega)]; exact tabP2 n (by omega) h0 h7 h8' h9) (by decide) ?_
  refine go_aload_n dX12_pond_133 rfl ?_
  refine go_iload_n dX12_pond_134 rfl ?_
  refine go_iload_n dX12_pond_135 rfl ?_
  refine go_callV (as := [_, _]) wX12_300 dX12_pond_136 rfl rfl rfl rfl (Nat.le_of_ble_eq_true rfl) (ct_X12_told hR0 hT hP7 hil (by omega) ?_)
  exact go_iret rfl rfl dX12_pond_139 hK
