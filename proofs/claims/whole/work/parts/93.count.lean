/-! count, feed, end -/
def cntA (X : XS) (a : Int) : Int :=
  if a = 0 then (nP (xs X) : Int) else if a = 1 then (nQ (xs X) : Int) else if a = 2 then ((xL X).length : Int) else if a = 3 then ((xp X).length : Int) else if a = 4 then ((xt X).length : Int) else if a = 5 then xh X else if a = 6 then (dy (xw X) : Int) else if a = 7 then suF (wa (xw X)) (nP (xs X)) else if a = 8 then suF (ca (xw X)) (nP (xs X)) else if a = 9 then suF (pk (xw X)) (nP (xs X)) else if a = 10 then ovr (xw X) else if a = 11 then suF (wa (xw X)) (nP (xs X)) - suF (fun i => pd (xs X) i 3) (nP (xs X)) else if a = 12 then suF (fun i => pd (xs X) i 1) (nP (xs X)) - suF (wa (xw X)) (nP (xs X)) else if a = 13 then xo X else if a = 14 then xk X else if a = 15 then (opn (xw X) : Int) else if a = 16 then ((xm X).length : Int) else if a = 17 then (lgn (dy (xw X)) : Int) else if a = 18 then ((xa X).length : Int) else -1000000
theorem cntA_n {X : XS} {a : Int} (h : ¬ (0 ≤ a ∧ a ≤ 18)) : cntA X a = -1000000 := by
  unfold cntA
  iterate 19 rw [if_neg (by omega)]
theorem ct_count0 {l : Launch} {D : va_G} {cA ad : Nat → Nat} {d : Nat} {σ : AS} {K : Option Value → AS → Prop} {X : XS} (hR : RO σ) (hK0 : XK X) (hC : CI σ X) (hK : ∀ τ, QF σ τ → K (some (.int (iI (cntA X 0)))) τ) : Call l D cA ad (d + 2) mX11_count [.ref 0, .int (iI 0)] σ K := by
  refine call_go (by decide) (Nat.le_of_ble_eq_true rfl) (show Go l D cA ad (d + 2) mX11_count 0 [.ref 0, .int (iI 0)] [] σ K from ?_)
  refine go_iload_n dX11_count_0 rfl ?_
  refine go_tabIn (off := 91) (tgt := 92) dX11_count_1 (by decide) (by decide) (by decide) (by decide) ?_
  refine go_aload_n dX11_count_92 rfl ?_
  refine go_getR fX11_19 dX11_count_93 rfl (hR _ _ _ rfl) ?_
  refine go_getI fX11_269 dX11_count_96 rfl ?_
  rw [hC.2.1.1]
  refine go_iret rfl rfl dX11_count_99 ?_
  exact hK σ QF.rf

theorem ct_count1 {l : Launch} {D : va_G} {cA ad : Nat → Nat} {d : Nat} {σ : AS} {K : Option Value → AS → Prop} {X : XS} (hR : RO σ) (hK0 : XK X) (hC : CI σ X) (hK : ∀ τ, QF σ τ → K (some (.int (iI (cntA X 1)))) τ) : Call l D cA ad (d + 2) mX11_count [.ref 0, .int (iI 1)] σ K := by
  refine call_go (by decide) (Nat.le_of_ble_eq_true rfl) (show Go l D cA ad (d + 2) mX11_count 0 [.ref 0, .int (iI 1)] [] σ K from ?_)
  refine go_iload_n dX11_count_0 rfl ?_
  refine go_tabIn (off := 99) (tgt := 100) dX11_count_1 (by decide) (by decide) (by decide) (by decide) ?_
  refine go_aload_n dX11_count_100 rfl ?_
  refine go_getR fX11_19 dX11_count_101 rfl (hR _ _ _ rfl) ?_
  refine go_getI fX11_356 dX11_count_104 rfl ?_
  rw [hC.2.1.2.1]
  refine go_iret rfl rfl dX11_count_107 ?_
  exact hK σ QF.rf

theorem ct_count2 {l : Launch} {D : va_G} {cA ad : Nat → Nat} {d : Nat} {σ : AS} {K : Option Value → AS → Prop} {X : XS} (hR : RO σ) (hK0 : XK X) (hC : CI σ X) (hK : ∀ τ, QF σ τ → K (some (.int (iI (cntA X 2)))) τ) : Call l D cA ad (d + 2) mX11_count [.ref 0, .int (iI 2)] σ K := by
  refine call_go (by decide) (Nat.le_of_ble_eq_true rfl) (show Go l D cA ad (d + 2) mX11_count 0 [.ref 0, .int (iI 2)] [] σ K from ?_)
  refine go_iload_n dX11_count_0 rfl ?_
  refine go_tabIn (off := 107) (tgt := 108) dX11_count_1 (by decide) (by decide) (by decide) (by decide) ?_
  refine go_aload_n dX11_count_108 rfl ?_
  refine go_getR fX11_40 dX11_count_109 rfl (hR _ _ _ rfl) ?_
  refine go_getI fX11_175 dX11_count_112 rfl ?_
  rw [hC.2.2.2.2.2.2.2.1.1]
  refine go_iret rfl rfl dX11_count_115 ?_
  exact hK σ QF.rf

theorem ct_count3 {l : Launch} {D : va_G} {cA ad : Nat → Nat} {d : Nat} {σ : AS} {K : Option Value → AS → Prop} {X : XS} (hR : RO σ) (hK0 : XK X) (hC : CI σ X) (hK : ∀ τ, QF σ τ → K (some (.int (iI (cntA X 3)))) τ) : Call l D cA ad (d + 2) mX11_count [.ref 0, .int (iI 3)] σ K := by
  refine call_go (by decide) (Nat.le_of_ble_eq_true rfl) (show Go l D cA ad (d + 2) mX11_count 0 [.ref 0, .int (iI 3)] [] σ K from ?_)
  refine go_iload_n dX11_count_0 rfl ?_
  refine go_tabIn (off := 115) (tgt := 116) dX11_count_1 (by decide) (by decide) (by decide) (by decide) ?_
  refine go_aload_n dX11_count_116 rfl ?_
  refine go_getI fX11_359 dX11_count_117 rfl ?_
  rw [hC.2.2.2.2.2.2.2.2.1.1]
  refine go_iret rfl rfl dX11_count_120 ?_
  exact hK σ QF.rf

theorem ct_count4 {l : Launch} {D : va_G} {cA ad : Nat → Nat} {d : Nat} {σ : AS} {K : Option Value → AS → Prop} {X : XS} (hR : RO σ) (hK0 : XK X) (hC : CI σ X) (hK : ∀ τ, QF σ τ → K (some (.int (iI (cntA X 4)))) τ) : Call l D cA ad (d + 2) mX11_count [.ref 0, .int (iI 4)] σ K := by
  refine call_go (by decide) (Nat.le_of_ble_eq_true rfl) (show Go l D cA ad (d + 2) mX11_count 0 [.ref 0, .int (iI 4)] [] σ K from ?_)
  refine go_iload_n dX11_count_0 rfl ?_
  refine go_tabIn (off := 120) (tgt := 121) dX11_count_1 (by decide) (by decide) (by decide) (by decide) ?_
  refine go_aload_n dX11_count_121 rfl ?_
  refine go_getR fX11_10 dX11_count_122 rfl (hR _ _ _ rfl) ?_
  refine go_getI fX11_106 dX11_count_125 rfl ?_
  rw [hC.1.1]
  refine go_iret rfl rfl dX11_count_128 ?_
  exact hK σ QF.rf

theorem ct_count5 {l : Launch} {D : va_G} {cA ad : Nat → Nat} {d : Nat} {σ : AS} {K : Option Value → AS → Prop} {X : XS} (hR : RO σ) (hK0 : XK X) (hC : CI σ X) (hK : ∀ τ, QF σ τ → K (some (.int (iI (cntA X 5)))) τ) : Call l D cA ad (d + 2) mX11_count [.ref 0, .int (iI 5)] σ K := by
  refine call_go (by decide) (Nat.le_of_ble_eq_true rfl) (show Go l D cA ad (d + 2) mX11_count 0 [.ref 0, .int (iI 5)] [] σ K from ?_)
  refine go_iload_n dX11_count_0 rfl ?_
  refine go_tabIn (off := 128) (tgt := 129) dX11_count_1 (by decide) (by decide) (by decide) (by decide) ?_
  refine go_aload_n dX11_count_129 rfl ?_
  refine go_getR fX11_40 dX11_count_130 rfl (hR _ _ _ rfl) ?_
  refine go_getI fX11_178 dX11_count_133 rfl ?_
  rw [hC.2.2.2.2.2.2.2.1.2.1]
  refine go_iret rfl rfl dX11_count_136 ?_
  exact hK σ QF.rf

theorem ct_count6 {l : Launch} {D : va_G} {cA ad : Nat → Nat} {d : Nat} {σ : AS} {K : Option Value → AS → Prop} {X : XS} (hR : RO σ) (hK0 : XK X) (hC : CI σ X) (hK : ∀ τ, QF σ τ → K (some (.int (iI (cntA X 6)))) τ) : Call l D cA ad (d + 2) mX11_count [.ref 0, .int (iI 6)] σ K := by
  refine call_go (by decide) (Nat.le_of_ble_eq_true rfl) (show Go l D cA ad (d + 2) mX11_count 0 [.ref 0, .int (iI 6)] [] σ K from ?_)
  refine go_iload_n dX11_count_0 rfl ?_
  refine go_tabIn (off := 136) (tgt := 137) dX11_count_1 (by decide) (by decide) (by decide) (by decide) ?_
  refine go_aload_n dX11_count_137 rfl ?_
  refine go_getR fX11_58 dX11_count_138 rfl (hR _ _ _ rfl) ?_
  refine go_getI fX11_192 dX11_count_141 rfl ?_
  rw [hC.2.2.1.2.2.2]
  refine go_iret rfl rfl dX11_count_144 ?_
  exact hK σ QF.rf

theorem ct_count7 {l : Launch} {D : va_G} {cA ad : Nat → Nat} {d : Nat} {σ : AS} {K : Option Value → AS → Prop} {X : XS} (hR : RO σ) (hK0 : XK X) (hC : CI σ X) (hK : ∀ τ, QF σ τ → K (some (.int (iI (cntA X 7)))) τ) : Call l D cA ad (d + 2) mX11_count [.ref 0, .int (iI 7)] σ K := by
  refine call_go (by decide) (Nat.le_of_ble_eq_true rfl) (show Go l D cA ad (d + 2) mX11_count 0 [.ref 0, .int (iI 7)] [] σ K from ?_)
  refine go_iload_n dX11_count_0 rfl ?_
  refine go_tabIn (off := 144) (tgt := 145) dX11_count_1 (by decide) (by decide) (by decide) (by decide) ?_
  refine go_aload_n dX11_count_145 rfl ?_
  refine go_getR fX11_58 dX11_count_146 rfl (hR _ _ _ rfl) ?_
  refine go_getR fX11_149 dX11_count_149 rfl (hR _ _ _ rfl) ?_
  refine go_callS (as := [_]) wX11_338 dX11_count_152 rfl rfl (Nat.le_of_ble_eq_true rfl) (ct_X10_sumOf (f := wa (xw X)) rfl (fun i hi => (hC.2.2.1.1 i hi).1) ?_)
  rw [suF_7 (fun i hi => (hK0.w.2.1 i hi).1) hK0.s.1]
  refine go_iret rfl rfl dX11_count_155 ?_
  exact hK σ QF.rf

theorem ct_count8 {l : Launch} {D : va_G} {cA ad : Nat → Nat} {d : Nat} {σ : AS} {K : Option Value → AS → Prop} {X : XS} (hR : RO σ) (hK0 : XK X) (hC : CI σ X) (hK : ∀ τ, QF σ τ → K (some (.int (iI (cntA X 8)))) τ) : Call l D cA ad (d + 2) mX11_count [.ref 0, .int (iI 8)] σ K := by
  refine call_go (by decide) (Nat.le_of_ble_eq_true rfl) (show Go l D cA ad (d + 2) mX11_count 0 [.ref 0, .int (iI 8)] [] σ K from ?_)
  refine go_iload_n dX11_count_0 rfl ?_
  refine go_tabIn (off := 155) (tgt := 156) dX11_count_1 (by decide) (by decide) (by decide) (by decide) ?_
  refine go_aload_n dX11_count_156 rfl ?_
  refine go_getR fX11_58 dX11_count_157 rfl (hR _ _ _ rfl) ?_
  refine go_getR fX11_152 dX11_count_160 rfl (hR _ _ _ rfl) ?_
  refine go_callS (as := [_]) wX11_338 dX11_count_163 rfl rfl (Nat.le_of_ble_eq_true rfl) (ct_X10_sumOf (f := ca (xw X)) rfl (fun i hi => (hC.2.2.1.1 i hi).2.1) ?_)
  rw [suF_7 (fun i hi => (hK0.w.2.1 i hi).2.1) hK0.s.1]
  refine go_iret rfl rfl dX11_count_166 ?_
  exact hK σ QF.rf

theorem ct_count9 {l : Launch} {D : va_G} {cA ad : Nat → Nat} {d : Nat} {σ : AS} {K : Option Value → AS → Prop} {X : XS} (hR : RO σ) (hK0 : XK X) (hC : CI σ X) (hK : ∀ τ, QF σ τ → K (some (.int (iI (cntA X 9)))) τ) : Call l D cA ad (d + 2) mX11_count [.ref 0, .int (iI 9)] σ K := by
  refine call_go (by decide) (Nat.le_of_ble_eq_true rfl) (show Go l D cA ad (d + 2) mX11_count 0 [.ref 0, .int (iI 9)] [] σ K from ?_)
  refine go_iload_n dX11_count_0 rfl ?_
  refine go_tabIn (off := 166) (tgt := 167) dX11_count_1 (by decide) (by decide) (by decide) (by decide) ?_
  refine go_aload_n dX11_count_167 rfl ?_
  refine go_getR fX11_58 dX11_count_168 rfl (hR _ _ _ rfl) ?_
  refine go_getR fX11_155 dX11_count_171 rfl (hR _ _ _ rfl) ?_
  refine go_callS (as := [_]) wX11_338 dX11_count_174 rfl rfl (Nat.le_of_ble_eq_true rfl) (ct_X10_sumOf (f := pk (xw X)) rfl (fun i hi => (hC.2.2.1.1 i hi).2.2) ?_)
  rw [suF_7 (fun i hi => (hK0.w.2.1 i hi).2.2) hK0.s.1]
  refine go_iret rfl rfl dX11_count_177 ?_
  exact hK σ QF.rf

theorem ct_count10 {l : Launch} {D : va_G} {cA ad : Nat → Nat} {d : Nat} {σ : AS} {K : Option Value → AS → Prop} {X : XS} (hR : RO σ) (hK0 : XK X) (hC : CI σ X) (hK : ∀ τ, QF σ τ → K (some (.int (iI (cntA X 10)))) τ) : Call l D cA ad (d + 2) mX11_count [.ref 0, .int (iI 10)] σ K := by
  refine call_go (by decide) (Nat.le_of_ble_eq_true rfl) (show Go l D cA ad (d + 2) mX11_count 0 [.ref 0, .int (iI 10)] [] σ K from ?_)
  refine go_iload_n dX11_count_0 rfl ?_
  refine go_tabIn (off := 177) (tgt := 178) dX11_count_1 (by decide) (by decide) (by decide) (by decide) ?_
  refine go_aload_n dX11_count_178 rfl ?_
  refine go_getR fX11_58 dX11_count_179 rfl (hR _ _ _ rfl) ?_
  refine go_getI fX11_362 dX11_count_182 rfl ?_
  rw [hC.2.2.1.2.2.1]
  refine go_iret rfl rfl dX11_count_185 ?_
  exact hK σ QF.rf

theorem ct_count11 {l : Launch} {D : va_G} {cA ad : Nat → Nat} {d : Nat} {σ : AS} {K : Option Value → AS → Prop} {X : XS} (hR : RO σ) (hK0 : XK X) (hC : CI σ X) (hK : ∀ τ, QF σ τ → K (some (.int (iI (cntA X 11)))) τ) : Call l D cA ad (d + 2) mX11_count [.ref 0, .int (iI 11)] σ K := by
  refine call_go (by decide) (Nat.le_of_ble_eq_true rfl) (show Go l D cA ad (d + 2) mX11_count 0 [.ref 0, .int (iI 11)] [] σ K from ?_)
  refine go_iload_n dX11_count_0 rfl ?_
  refine go_tabIn (off := 185) (tgt := 186) dX11_count_1 (by decide) (by decide) (by decide) (by decide) ?_
  refine go_aload_n dX11_count_186 rfl ?_
  refine go_getR fX11_58 dX11_count_187 rfl (hR _ _ _ rfl) ?_
  refine go_getR fX11_149 dX11_count_190 rfl (hR _ _ _ rfl) ?_
  refine go_callS (as := [_]) wX11_338 dX11_count_193 rfl rfl (Nat.le_of_ble_eq_true rfl) (ct_X10_sumOf (f := wa (xw X)) rfl (fun i hi => (hC.2.2.1.1 i hi).1) ?_)
  rw [suF_7 (fun i hi => (hK0.w.2.1 i hi).1) hK0.s.1]
  refine go_aload_n dX11_count_196 rfl ?_
  refine go_getR fX11_19 dX11_count_197 rfl (hR _ _ _ rfl) ?_
  refine go_iconst (v := iI 3) dX11_count_200 (by decide) ?_
  refine go_callV (as := [_]) wX11_365 dX11_count_201 rfl rfl rfl rfl (Nat.le_of_ble_eq_true rfl) (ct_X9_sumOfPonds (j := 3) hR hC.2.1 hK0.s (by decide) ?_)
  refine go_isub dX11_count_204 ?_
  rw [iI_sub]
  refine go_iret rfl rfl dX11_count_205 ?_
  exact hK σ QF.rf

theorem ct_count12 {l : Launch} {D : va_G} {cA ad : Nat → Nat} {d : Nat} {σ : AS} {K : Option Value → AS → Prop} {X : XS} (hR : RO σ) (hK0 : XK X) (hC : CI σ X) (hK : ∀ τ, QF σ τ → K (some (.int (iI (cntA X 12)))) τ) : Call l D cA ad (d + 2) mX11_count [.ref 0, .int (iI 12)] σ K := by
  refine call_go (by decide) (Nat.le_of_ble_eq_true rfl) (show Go l D cA ad (d + 2) mX11_count 0 [.ref 0, .int (iI 12)] [] σ K from ?_)
  refine go_iload_n dX11_count_0 rfl ?_
  refine go_tabIn (off := 205) (tgt := 206) dX11_count_1 (by decide) (by decide) (by decide) (by decide) ?_
  refine go_aload_n dX11_count_206 rfl ?_
  refine go_getR fX11_19 dX11_count_207 rfl (hR _ _ _ rfl) ?_
  refine go_iconst (v := iI 1) dX11_count_210 (by decide) ?_
  refine go_callV (as := [_]) wX11_365 dX11_count_211 rfl rfl rfl rfl (Nat.le_of_ble_eq_true rfl) (ct_X9_sumOfPonds (j := 1) hR hC.2.1 hK0.s (by decide) ?_)
  refine go_aload_n dX11_count_214 rfl ?_
  refine go_getR fX11_58 dX11_count_215 rfl (hR _ _ _ rfl) ?_
  refine go_getR fX11_149 dX11_count_218 rfl (hR _ _ _ rfl) ?_
  refine go_callS (as := [_]) wX11_338 dX11_count_221 rfl rfl (Nat.le_of_ble_eq_true rfl) (ct_X10_sumOf (f := wa (xw X)) rfl (fun i hi => (hC.2.2.1.1 i hi).1) ?_)
  rw [suF_7 (fun i hi => (hK0.w.2.1 i hi).1) hK0.s.1]
  refine go_isub dX11_count_224 ?_
  rw [iI_sub]
  refine go_iret rfl rfl dX11_count_225 ?_
  exact hK σ QF.rf

theorem ct_count13 {l : Launch} {D : va_G} {cA ad : Nat → Nat} {d : Nat} {σ : AS} {K : Option Value → AS → Prop} {X : XS} (hR : RO σ) (hK0 : XK X) (hC : CI σ X) (hK : ∀ τ, QF σ τ → K (some (.int (iI (cntA X 13)))) τ) : Call l D cA ad (d + 2) mX11_count [.ref 0, .int (iI 13)] σ K := by
  refine call_go (by decide) (Nat.le_of_ble_eq_true rfl) (show Go l D cA ad (d + 2) mX11_count 0 [.ref 0, .int (iI 13)] [] σ K from ?_)
  refine go_iload_n dX11_count_0 rfl ?_
  refine go_tabIn (off := 225) (tgt := 226) dX11_count_1 (by decide) (by decide) (by decide) (by decide) ?_
  refine go_aload_n dX11_count_226 rfl ?_
  refine go_getI fX11_98 dX11_count_227 rfl ?_
  rw [hC.2.2.2.2.2.2.2.2.2.1]
  refine go_iret rfl rfl dX11_count_230 ?_
  exact hK σ QF.rf

theorem ct_count14 {l : Launch} {D : va_G} {cA ad : Nat → Nat} {d : Nat} {σ : AS} {K : Option Value → AS → Prop} {X : XS} (hR : RO σ) (hK0 : XK X) (hC : CI σ X) (hK : ∀ τ, QF σ τ → K (some (.int (iI (cntA X 14)))) τ) : Call l D cA ad (d + 2) mX11_count [.ref 0, .int (iI 14)] σ K := by
  refine call_go (by decide) (Nat.le_of_ble_eq_true rfl) (show Go l D cA ad (d + 2) mX11_count 0 [.ref 0, .int (iI 14)] [] σ K from ?_)
  refine go_iload_n dX11_count_0 rfl ?_
  refine go_tabIn (off := 230) (tgt := 231) dX11_count_1 (by decide) (by decide) (by decide) (by decide) ?_
  refine go_aload_n dX11_count_231 rfl ?_
  refine go_getI fX11_181 dX11_count_232 rfl ?_
  rw [hC.2.2.2.2.2.2.2.2.2.2]
  refine go_iret rfl rfl dX11_count_235 ?_
  exact hK σ QF.rf

theorem ct_count15 {l : Launch} {D : va_G} {cA ad : Nat → Nat} {d : Nat} {σ : AS} {K : Option Value → AS → Prop} {X : XS} (hR : RO σ) (hK0 : XK X) (hC : CI σ X) (hK : ∀ τ, QF σ τ → K (some (.int (iI (cntA X 15)))) τ) : Call l D cA ad (d + 2) mX11_count [.ref 0, .int (iI 15)] σ K := by
  refine call_go (by decide) (Nat.le_of_ble_eq_true rfl) (show Go l D cA ad (d + 2) mX11_count 0 [.ref 0, .int (iI 15)] [] σ K from ?_)
  refine go_iload_n dX11_count_0 rfl ?_
  refine go_tabIn (off := 235) (tgt := 236) dX11_count_1 (by decide) (by decide) (by decide) (by decide) ?_
  refine go_aload_n dX11_count_236 rfl ?_
  refine go_getR fX11_58 dX11_count_237 rfl (hR _ _ _ rfl) ?_
  refine go_getI fX11_250 dX11_count_240 rfl ?_
  rw [hC.2.2.1.2.1]
  refine go_iret rfl rfl dX11_count_243 ?_
  exact hK σ QF.rf

theorem ct_count16 {l : Launch} {D : va_G} {cA ad : Nat → Nat} {d : Nat} {σ : AS} {K : Option Value → AS → Prop} {X : XS} (hR : RO σ) (hK0 : XK X) (hC : CI σ X) (hK : ∀ τ, QF σ τ → K (some (.int (iI (cntA X 16)))) τ) : Call l D cA ad (d + 2) mX11_count [.ref 0, .int (iI 16)] σ K := by
  refine call_go (by decide) (Nat.le_of_ble_eq_true rfl) (show Go l D cA ad (d + 2) mX11_count 0 [.ref 0, .int (iI 16)] [] σ K from ?_)
  refine go_iload_n dX11_count_0 rfl ?_
  refine go_tabIn (off := 243) (tgt := 244) dX11_count_1 (by decide) (by decide) (by decide) (by decide) ?_
  refine go_aload_n dX11_count_244 rfl ?_
  refine go_getR fX11_85 dX11_count_245 rfl (hR _ _ _ rfl) ?_
  refine go_getI fX11_293 dX11_count_248 rfl ?_
  rw [hC.2.2.2.2.2.2.1.1]
  refine go_iret rfl rfl dX11_count_251 ?_
  exact hK σ QF.rf

theorem ct_count17 {l : Launch} {D : va_G} {cA ad : Nat → Nat} {d : Nat} {σ : AS} {K : Option Value → AS → Prop} {X : XS} (hR : RO σ) (hK0 : XK X) (hC : CI σ X) (hK : ∀ τ, QF σ τ → K (some (.int (iI (cntA X 17)))) τ) : Call l D cA ad (d + 2) mX11_count [.ref 0, .int (iI 17)] σ K := by
  refine call_go (by decide) (Nat.le_of_ble_eq_true rfl) (show Go l D cA ad (d + 2) mX11_count 0 [.ref 0, .int (iI 17)] [] σ K from ?_)
  refine go_iload_n dX11_count_0 rfl ?_
  refine go_tabIn (off := 251) (tgt := 252) dX11_count_1 (by decide) (by decide) (by decide) (by decide) ?_
  refine go_aload_n dX11_count_252 rfl ?_
  refine go_getR fX11_65 dX11_count_253 rfl (hR _ _ _ rfl) ?_
  refine go_callV (as := []) wX11_368 dX11_count_256 rfl rfl rfl rfl (Nat.le_of_ble_eq_true rfl) (ct_X1_length hC.2.2.2.1.1 (by have := hK0.d; omega) ?_)
  refine go_iret rfl rfl dX11_count_259 ?_
  exact hK σ QF.rf

theorem ct_count18 {l : Launch} {D : va_G} {cA ad : Nat → Nat} {d : Nat} {σ : AS} {K : Option Value → AS → Prop} {X : XS} (hR : RO σ) (hK0 : XK X) (hC : CI σ X) (hK : ∀ τ, QF σ τ → K (some (.int (iI (cntA X 18)))) τ) : Call l D cA ad (d + 2) mX11_count [.ref 0, .int (iI 18)] σ K := by
  refine call_go (by decide) (Nat.le_of_ble_eq_true rfl) (show Go l D cA ad (d + 2) mX11_count 0 [.ref 0, .int (iI 18)] [] σ K from ?_)
  refine go_iload_n dX11_count_0 rfl ?_
  refine go_tabIn (off := 259) (tgt := 260) dX11_count_1 (by decide) (by decide) (by decide) (by decide) ?_
  refine go_aload_n dX11_count_260 rfl ?_
  refine go_getR fX11_72 dX11_count_261 rfl (hR _ _ _ rfl) ?_
  refine go_getI fX11_213 dX11_count_264 rfl ?_
  rw [hC.2.2.2.2.1.1]
  refine go_iret rfl rfl dX11_count_267 ?_
  exact hK σ QF.rf

theorem ct_X11_count {l : Launch} {D : va_G} {cA ad : Nat → Nat} {d : Nat} {σ : AS} {K : Option Value → AS → Prop} {X : XS} {a : Int} (hR : RO σ) (hK0 : XK X) (hC : CI σ X) (ha32 : -2147483648 ≤ a ∧ a < 2147483648) (hK : ∀ τ, QF σ τ → K (some (.int (iI (cntA X a)))) τ) : Call l D cA ad (d + 2) mX11_count [.ref 0, .int (iI a)] σ K := by
  by_cases h : 0 ≤ a ∧ a ≤ 18
  · rcases (show a = 0 ∨ a = 1 ∨ a = 2 ∨ a = 3 ∨ a = 4 ∨ a = 5 ∨ a = 6 ∨ a = 7 ∨ a = 8 ∨ a = 9 ∨ a = 10 ∨ a = 11 ∨ a = 12 ∨ a = 13 ∨ a = 14 ∨ a = 15 ∨ a = 16 ∨ a = 17 ∨ a = 18 by omega) with rfl | rfl | rfl | rfl | rfl | rfl | rfl | rfl | rfl | rfl | rfl | rfl | rfl | rfl | rfl | rfl | rfl | rfl | rfl
    · exact ct_count0 hR hK0 hC hK
    · exact ct_count1 hR hK0 hC hK
    · exact ct_count2 hR hK0 hC hK
    · exact ct_count3 hR hK0 hC hK
    · exact ct_count4 hR hK0 hC hK
    · exact ct_count5 hR hK0 hC hK
    · exact ct_count6 hR hK0 hC hK
    · exact ct_count7 hR hK0 hC hK
    · exact ct_count8 hR hK0 hC hK
    · exact ct_count9 hR hK0 hC hK
    · exact ct_count10 hR hK0 hC hK
    · exact ct_count11 hR hK0 hC hK
    · exact ct_count12 hR hK0 hC hK
    · exact ct_count13 hR hK0 hC hK
    · exact ct_count14 hR hK0 hC hK
    · exact ct_count15 hR hK0 hC hK
    · exact ct_count16 hR hK0 hC hK
    · exact ct_count17 hR hK0 hC hK
    · exact ct_count18 hR hK0 hC hK
  refine call_go (by decide) (Nat.le_of_ble_eq_true rfl) (show Go l D cA ad (d + 2) mX11_count 0 [.ref 0, .int (iI a)] [] σ K from ?_)
  refine go_iload_n dX11_count_0 rfl ?_
  refine go_tabOut (tgt := 268) dX11_count_1 (by rw [iI_toInt (by omega) (by omega)]; omega) (by decide) ?_
  refine go_ldc lX11_226 dX11_count_268 ?_
  refine go_iret rfl rfl dX11_count_270 ?_
  rw [cntA_n h] at hK
  exact hK σ QF.rf
theorem sT4 {l : Launch} {D : va_G} {cA ad : Nat → Nat} {d : Nat} {σ : AS} {K : Option Value → AS → Prop} {s : PS} {j : Nat} (hR : RO σ) (hT : TwM σ s) (hS : TwK s) (hj : j < 9) (hK : K (some (.int (iI (suF (fun i => pd s i j) (nP s))))) σ) : ∀ i, i ≤ nP s → Go l D cA ad (d + 1) mX12_sumTold 4 [.ref 111, .int (iI j), .int (iI (suF (fun i => pd s i j) i)), .int (iI i)] [] σ K := by
  have hP7 := hS.1
  refine up_loop ?_ (fun i hi ih => ?_)
  · refine go_iload_n dX12_sumTold_4 rfl ?_
    refine go_aload_n dX12_sumTold_5 rfl ?_
    refine go_getI fX12_294 dX12_sumTold_6 rfl ?_
    refine go_icmp_ge (tgt := 27) dX12_sumTold_9 (by decide) (fun h9 => ?_) (fun h9 => ?_)
    · refine go_iload_n dX12_sumTold_27 rfl ?_
      refine go_iret rfl rfl dX12_sumTold_28 ?_
      exact hK
    · exfalso
      rw [hT.1, iI_le (by omega)] at h9
      omega
  · refine go_iload_n dX12_sumTold_4 rfl ?_
    refine go_aload_n dX12_sumTold_5 rfl ?_
    refine go_getI fX12_294 dX12_sumTold_6 rfl ?_
    refine go_icmp_ge (tgt := 27) dX12_sumTold_9 (by decide) (fun h9 => ?_) (fun h9 => ?_)
    · exfalso
      rw [hT.1, iI_le (by omega)] at h9
      omega
    · refine go_iload_n dX12_sumTold_12 rfl ?_
      refine go_aload_n dX12_sumTold_13 rfl ?_
      refine go_iload_n dX12_sumTold_14 rfl ?_
      refine go_iload_n dX12_sumTold_15 rfl ?_
      refine go_callV (as := [_, _]) wX12_300 dX12_sumTold_16 rfl rfl rfl rfl (Nat.le_of_ble_eq_true rfl) (ct_X12_told (i := i) (j := j) hR hT hS.1 hi hj ?_)
      refine go_iadd dX12_sumTold_19 ?_
      refine go_istore_n dX12_sumTold_20 (Nat.le_of_ble_eq_true rfl) rfl ?_
      refine go_iincI dX12_sumTold_21 rfl (Nat.le_of_ble_eq_true rfl) rfl ?_
      refine go_goto (tgt := 4) dX12_sumTold_24 (by decide) ?_
      simp only [List.set, iI_add]
      exact ih

theorem ct_X12_sumTold {l : Launch} {D : va_G} {cA ad : Nat → Nat} {d : Nat} {σ : AS} {K : Option Value → AS → Prop} {s : PS} {j : Nat} (hR : RO σ) (hT : TwM σ s) (hS : TwK s) (hj : j < 9) (hK : K (some (.int (iI (suF (fun i => pd s i j) (nP s))))) σ) : Call l D cA ad (d + 1) mX12_sumTold [.ref 111, .int (iI j)] σ K := by
  refine call_go (by decide) (Nat.le_of_ble_eq_true rfl) (show Go l D cA ad (d + 1) mX12_sumTold 0 [.ref 111, .int (iI j), .null, .null] [] σ K from ?_)
  refine go_iconst (v := iI 0) dX12_sumTold_0 (by decide) ?_
  refine go_istore_n dX12_sumTold_1 (Nat.le_of_ble_eq_true rfl) rfl ?_
  refine go_iconst (v := iI 0) dX12_sumTold_2 (by decide) ?_
  refine go_istore_n dX12_sumTold_3 (Nat.le_of_ble_eq_true rfl) rfl ?_
  simp only [List.set]
  exact sT4 hR hT hS hj hK 0 (by omega)

theorem ct_mcount0 {l : Launch} {D : va_G} {cA ad : Nat → Nat} {d : Nat} {σ : AS} {K : Option Value → AS → Prop} {X : XS} (hR : RO σ) (hK0 : XK X) (hC : MI σ X) (hK : ∀ τ, DF (xL X) σ τ → K (some (.int (iI (cntA X 0)))) τ) : Call l D cA ad (d + 2) mX12_count [.ref 111, .int (iI 0)] σ K := by
  refine call_go (by decide) (Nat.le_of_ble_eq_true rfl) (show Go l D cA ad (d + 2) mX12_count 0 [.ref 111, .int (iI 0)] [] σ K from ?_)
  refine go_aload_n dX12_count_0 rfl ?_
  refine go_iconst (v := iI 0) dX12_count_1 (by decide) ?_
  refine go_putI fX12_96 rfl dX12_count_2 rfl rfl rfl ?_
  have hq : DF (xL X) σ (sI σ 111 (upd (σ.1 111) 0 (iI 0))) := DF_f0 DF.rf
  have hR0 := hq.RO hR
  have hC0 := hC.q hK0 hq
  generalize sI σ 111 (upd (σ.1 111) 0 (iI 0)) = τ at hq hR0 hC0 ⊢
  refine go_iload_n dX12_count_5 rfl ?_
  refine go_tabIn (off := 90) (tgt := 96) dX12_count_6 (by decide) (by decide) (by decide) (by decide) ?_
  refine go_aload_n dX12_count_96 rfl ?_
  refine go_getI fX12_294 dX12_count_97 rfl ?_
  rw [hC0.2.1.1]
  refine go_iret rfl rfl dX12_count_100 ?_
  exact hK τ hq

theorem ct_mcount1 {l : Launch} {D : va_G} {cA ad : Nat → Nat} {d : Nat} {σ : AS} {K : Option Value → AS → Prop} {X : XS} (hR : RO σ) (hK0 : XK X) (hC : MI σ X) (hK : ∀ τ, DF (xL X) σ τ → K (some (.int (iI (cntA X 1)))) τ) : Call l D cA ad (d + 2) mX12_count [.ref 111, .int (iI 1)] σ K := by
  refine call_go (by decide) (Nat.le_of_ble_eq_true rfl) (show Go l D cA ad (d + 2) mX12_count 0 [.ref 111, .int (iI 1)] [] σ K from ?_)
  refine go_aload_n dX12_count_0 rfl ?_
  refine go_iconst (v := iI 0) dX12_count_1 (by decide) ?_
  refine go_putI fX12_96 rfl dX12_count_2 rfl rfl rfl ?_
  have hq : DF (xL X) σ (sI σ 111 (upd (σ.1 111) 0 (iI 0))) := DF_f0 DF.rf
  have hR0 := hq.RO hR
  have hC0 := hC.q hK0 hq
  generalize sI σ 111 (upd (σ.1 111) 0 (iI 0)) = τ at hq hR0 hC0 ⊢
  refine go_iload_n dX12_count_5 rfl ?_
  refine go_tabIn (off := 95) (tgt := 101) dX12_count_6 (by decide) (by decide) (by decide) (by decide) ?_
  refine go_aload_n dX12_count_101 rfl ?_
  refine go_getI fX12_297 dX12_count_102 rfl ?_
  rw [hC0.2.1.2.1]
  refine go_iret rfl rfl dX12_count_105 ?_
  exact hK τ hq

theorem ct_mcount2 {l : Launch} {D : va_G} {cA ad : Nat → Nat} {d : Nat} {σ : AS} {K : Option Value → AS → Prop} {X : XS} (hR : RO σ) (hK0 : XK X) (hC : MI σ X) (hK : ∀ τ, DF (xL X) σ τ → K (some (.int (iI (cntA X 2)))) τ) : Call l D cA ad (d + 2) mX12_count [.ref 111, .int (iI 2)] σ K := by
  refine call_go (by decide) (Nat.le_of_ble_eq_true rfl) (show Go l D cA ad (d + 2) mX12_count 0 [.ref 111, .int (iI 2)] [] σ K from ?_)
  refine go_aload_n dX12_count_0 rfl ?_
  refine go_iconst (v := iI 0) dX12_count_1 (by decide) ?_
  refine go_putI fX12_96 rfl dX12_count_2 rfl rfl rfl ?_
  have hq : DF (xL X) σ (sI σ 111 (upd (σ.1 111) 0 (iI 0))) := DF_f0 DF.rf
  have hR0 := hq.RO hR
  have hC0 := hC.q hK0 hq
  generalize sI σ 111 (upd (σ.1 111) 0 (iI 0)) = τ at hq hR0 hC0 ⊢
  refine go_iload_n dX12_count_5 rfl ?_
  refine go_tabIn (off := 100) (tgt := 106) dX12_count_6 (by decide) (by decide) (by decide) (by decide) ?_
  refine go_aload_n dX12_count_106 rfl ?_
  refine go_getI fX12_286 dX12_count_107 rfl ?_
  rw [hC0.2.2.2.2.2.2.1.1]
  refine go_iret rfl rfl dX12_count_110 ?_
  exact hK τ hq

theorem ct_mcount3 {l : Launch} {D : va_G} {cA ad : Nat → Nat} {d : Nat} {σ : AS} {K : Option Value → AS → Prop} {X : XS} (hR : RO σ) (hK0 : XK X) (hC : MI σ X) (hK : ∀ τ, DF (xL X) σ τ → K (some (.int (iI (cntA X 3)))) τ) : Call l D cA ad (d + 2) mX12_count [.ref 111, .int (iI 3)] σ K := by
  refine call_go (by decide) (Nat.le_of_ble_eq_true rfl) (show Go l D cA ad (d + 2) mX12_count 0 [.ref 111, .int (iI 3)] [] σ K from ?_)
  refine go_aload_n dX12_count_0 rfl ?_
  refine go_iconst (v := iI 0) dX12_count_1 (by decide) ?_
  refine go_putI fX12_96 rfl dX12_count_2 rfl rfl rfl ?_
  have hq : DF (xL X) σ (sI σ 111 (upd (σ.1 111) 0 (iI 0))) := DF_f0 DF.rf
  have hR0 := hq.RO hR
  have hC0 := hC.q hK0 hq
  generalize sI σ 111 (upd (σ.1 111) 0 (iI 0)) = τ at hq hR0 hC0 ⊢
  refine go_iload_n dX12_count_5 rfl ?_
  refine go_tabIn (off := 105) (tgt := 111) dX12_count_6 (by decide) (by decide) (by decide) (by decide) ?_
  refine go_aload_n dX12_count_111 rfl ?_
  refine go_getI fX12_289 dX12_count_112 rfl ?_
  rw [hC0.2.2.2.2.2.2.2.2.2.1.1]
  refine go_iret rfl rfl dX12_count_115 ?_
  exact hK τ hq

theorem ct_mcount4 {l : Launch} {D : va_G} {cA ad : Nat → Nat} {d : Nat} {σ : AS} {K : Option Value → AS → Prop} {X : XS} (hR : RO σ) (hK0 : XK X) (hC : MI σ X) (hK : ∀ τ, DF (xL X) σ τ → K (some (.int (iI (cntA X 4)))) τ) : Call l D cA ad (d + 2) mX12_count [.ref 111, .int (iI 4)] σ K := by
  refine call_go (by decide) (Nat.le_of_ble_eq_true rfl) (show Go l D cA ad (d + 2) mX12_count 0 [.ref 111, .int (iI 4)] [] σ K from ?_)
  refine go_aload_n dX12_count_0 rfl ?_
  refine go_iconst (v := iI 0) dX12_count_1 (by decide) ?_
  refine go_putI fX12_96 rfl dX12_count_2 rfl rfl rfl ?_
  have hq : DF (xL X) σ (sI σ 111 (upd (σ.1 111) 0 (iI 0))) := DF_f0 DF.rf
  have hR0 := hq.RO hR
  have hC0 := hC.q hK0 hq
  generalize sI σ 111 (upd (σ.1 111) 0 (iI 0)) = τ at hq hR0 hC0 ⊢
  refine go_iload_n dX12_count_5 rfl ?_
  refine go_tabIn (off := 110) (tgt := 116) dX12_count_6 (by decide) (by decide) (by decide) (by decide) ?_
  refine go_aload_n dX12_count_116 rfl ?_
  refine go_getI fX12_109 dX12_count_117 rfl ?_
  rw [hC0.1.1]
  refine go_iret rfl rfl dX12_count_120 ?_
  exact hK τ hq

theorem ct_mcount5 {l : Launch} {D : va_G} {cA ad : Nat → Nat} {d : Nat} {σ : AS} {K : Option Value → AS → Prop} {X : XS} (hR : RO σ) (hK0 : XK X) (hC : MI σ X) (hK : ∀ τ, DF (xL X) σ τ → K (some (.int (iI (cntA X 5)))) τ) : Call l D cA ad (d + 2) mX12_count [.ref 111, .int (iI 5)] σ K := by
  refine call_go (by decide) (Nat.le_of_ble_eq_true rfl) (show Go l D cA ad (d + 2) mX12_count 0 [.ref 111, .int (iI 5)] [] σ K from ?_)
  refine go_aload_n dX12_count_0 rfl ?_
  refine go_iconst (v := iI 0) dX12_count_1 (by decide) ?_
  refine go_putI fX12_96 rfl dX12_count_2 rfl rfl rfl ?_
  have hq : DF (xL X) σ (sI σ 111 (upd (σ.1 111) 0 (iI 0))) := DF_f0 DF.rf
  have hR0 := hq.RO hR
  have hC0 := hC.q hK0 hq
  generalize sI σ 111 (upd (σ.1 111) 0 (iI 0)) = τ at hq hR0 hC0 ⊢
  refine go_iload_n dX12_count_5 rfl ?_
  refine go_tabIn (off := 115) (tgt := 121) dX12_count_6 (by decide) (by decide) (by decide) (by decide) ?_
  refine go_aload_n dX12_count_121 rfl ?_
  refine go_getI fX12_67 dX12_count_122 rfl ?_
  rw [hC0.2.2.2.2.2.2.1.2.1]
  refine go_iret rfl rfl dX12_count_125 ?_
  exact hK τ hq

theorem ct_mcount6 {l : Launch} {D : va_G} {cA ad : Nat → Nat} {d : Nat} {σ : AS} {K : Option Value → AS → Prop} {X : XS} (hR : RO σ) (hK0 : XK X) (hC : MI σ X) (hK : ∀ τ, DF (xL X) σ τ → K (some (.int (iI (cntA X 6)))) τ) : Call l D cA ad (d + 2) mX12_count [.ref 111, .int (iI 6)] σ K := by
  refine call_go (by decide) (Nat.le_of_ble_eq_true rfl) (show Go l D cA ad (d + 2) mX12_count 0 [.ref 111, .int (iI 6)] [] σ K from ?_)
  refine go_aload_n dX12_count_0 rfl ?_
  refine go_iconst (v := iI 0) dX12_count_1 (by decide) ?_
  refine go_putI fX12_96 rfl dX12_count_2 rfl rfl rfl ?_
  have hq : DF (xL X) σ (sI σ 111 (upd (σ.1 111) 0 (iI 0))) := DF_f0 DF.rf
  have hR0 := hq.RO hR
  have hC0 := hC.q hK0 hq
  generalize sI σ 111 (upd (σ.1 111) 0 (iI 0)) = τ at hq hR0 hC0 ⊢
  refine go_iload_n dX12_count_5 rfl ?_
  refine go_tabIn (off := 120) (tgt := 126) dX12_count_6 (by decide) (by decide) (by decide) (by decide) ?_
  refine go_aload_n dX12_count_126 rfl ?_
  refine go_getR fX12_61 dX12_count_127 rfl (hR0 _ _ _ rfl) ?_
  refine go_bipush (v := iI 23) dX12_count_130 (by decide) ?_
  refine go_iald dX12_count_132 rfl (vp_iI (by decide)) ?_
  rw [show (iI 23).toNatClampNeg = 23 by decide, hC0.2.2.1.1.2.2.2]
  refine go_iret rfl rfl dX12_count_133 ?_
  exact hK τ hq

theorem ct_mcount7 {l : Launch} {D : va_G} {cA ad : Nat → Nat} {d : Nat} {σ : AS} {K : Option Value → AS → Prop} {X : XS} (hR : RO σ) (hK0 : XK X) (hC : MI σ X) (hK : ∀ τ, DF (xL X) σ τ → K (some (.int (iI (cntA X 7)))) τ) : Call l D cA ad (d + 2) mX12_count [.ref 111, .int (iI 7)] σ K := by
  refine call_go (by decide) (Nat.le_of_ble_eq_true rfl) (show Go l D cA ad (d + 2) mX12_count 0 [.ref 111, .int (iI 7)] [] σ K from ?_)
  refine go_aload_n dX12_count_0 rfl ?_
  refine go_iconst (v := iI 0) dX12_count_1 (by decide) ?_
  refine go_putI fX12_96 rfl dX12_count_2 rfl rfl rfl ?_
  have hq : DF (xL X) σ (sI σ 111 (upd (σ.1 111) 0 (iI 0))) := DF_f0 DF.rf
  have hR0 := hq.RO hR
  have hC0 := hC.q hK0 hq
  generalize sI σ 111 (upd (σ.1 111) 0 (iI 0)) = τ at hq hR0 hC0 ⊢
  refine go_iload_n dX12_count_5 rfl ?_
  refine go_tabIn (off := 128) (tgt := 134) dX12_count_6 (by decide) (by decide) (by decide) (by decide) ?_
  refine go_aload_n dX12_count_134 rfl ?_
  refine go_aload_n dX12_count_135 rfl ?_
  refine go_getR fX12_61 dX12_count_136 rfl (hR0 _ _ _ rfl) ?_
  refine go_iconst (v := iI 0) dX12_count_139 (by decide) ?_
  refine go_callV (as := [_, _]) wX12_357 dX12_count_140 rfl rfl rfl rfl (Nat.le_of_ble_eq_true rfl) (ct_X12_sumIn (k := 0) (f := wa (xw X)) hR0 hC0.2.1 hK0.s rfl (by decide) (fun i hi => (hC0.2.2.1.1.1 i hi).1) ?_)
  refine go_iret rfl rfl dX12_count_143 ?_
  exact hK τ hq

theorem ct_mcount8 {l : Launch} {D : va_G} {cA ad : Nat → Nat} {d : Nat} {σ : AS} {K : Option Value → AS → Prop} {X : XS} (hR : RO σ) (hK0 : XK X) (hC : MI σ X) (hK : ∀ τ, DF (xL X) σ τ → K (some (.int (iI (cntA X 8)))) τ) : Call l D cA ad (d + 2) mX12_count [.ref 111, .int (iI 8)] σ K := by
  refine call_go (by decide) (Nat.le_of_ble_eq_true rfl) (show Go l D cA ad (d + 2) mX12_count 0 [.ref 111, .int (iI 8)] [] σ K from ?_)
  refine go_aload_n dX12_count_0 rfl ?_
  refine go_iconst (v := iI 0) dX12_count_1 (by decide) ?_
  refine go_putI fX12_96 rfl dX12_count_2 rfl rfl rfl ?_
  have hq : DF (xL X) σ (sI σ 111 (upd (σ.1 111) 0 (iI 0))) := DF_f0 DF.rf
  have hR0 := hq.RO hR
  have hC0 := hC.q hK0 hq
  generalize sI σ 111 (upd (σ.1 111) 0 (iI 0)) = τ at hq hR0 hC0 ⊢
  refine go_iload_n dX12_count_5 rfl ?_
  refine go_tabIn (off := 138) (tgt := 144) dX12_count_6 (by decide) (by decide) (by decide) (by decide) ?_
  refine go_aload_n dX12_count_144 rfl ?_
  refine go_aload_n dX12_count_145 rfl ?_
  refine go_getR fX12_61 dX12_count_146 rfl (hR0 _ _ _ rfl) ?_
  refine go_iconst (v := iI 1) dX12_count_149 (by decide) ?_
  refine go_callV (as := [_, _]) wX12_357 dX12_count_150 rfl rfl rfl rfl (Nat.le_of_ble_eq_true rfl) (ct_X12_sumIn (k := 1) (f := ca (xw X)) hR0 hC0.2.1 hK0.s rfl (by decide) (fun i hi => (hC0.2.2.1.1.1 i hi).2.1) ?_)
  refine go_iret rfl rfl dX12_count_153 ?_
  exact hK τ hq

theorem ct_mcount9 {l : Launch} {D : va_G} {cA ad : Nat → Nat} {d : Nat} {σ : AS} {K : Option Value → AS → Prop} {X : XS} (hR : RO σ) (hK0 : XK X) (hC : MI σ X) (hK : ∀ τ, DF (xL X) σ τ → K (some (.int (iI (cntA X 9)))) τ) : Call l D cA ad (d + 2) mX12_count [.ref 111, .int (iI 9)] σ K := by
  refine call_go (by decide) (Nat.le_of_ble_eq_true rfl) (show Go l D cA ad (d + 2) mX12_count 0 [.ref 111, .int (iI 9)] [] σ K from ?_)
  refine go_aload_n dX12_count_0 rfl ?_
  refine go_iconst (v := iI 0) dX12_count_1 (by decide) ?_
  refine go_putI fX12_96 rfl dX12_count_2 rfl rfl rfl ?_
  have hq : DF (xL X) σ (sI σ 111 (upd (σ.1 111) 0 (iI 0))) := DF_f0 DF.rf
  have hR0 := hq.RO hR
  have hC0 := hC.q hK0 hq
  generalize sI σ 111 (upd (σ.1 111) 0 (iI 0)) = τ at hq hR0 hC0 ⊢
  refine go_iload_n dX12_count_5 rfl ?_
  refine go_tabIn (off := 148) (tgt := 154) dX12_count_6 (by decide) (by decide) (by decide) (by decide) ?_
  refine go_aload_n dX12_count_154 rfl ?_
  refine go_aload_n dX12_count_155 rfl ?_
  refine go_getR fX12_61 dX12_count_156 rfl (hR0 _ _ _ rfl) ?_
  refine go_iconst (v := iI 2) dX12_count_159 (by decide) ?_
  refine go_callV (as := [_, _]) wX12_357 dX12_count_160 rfl rfl rfl rfl (Nat.le_of_ble_eq_true rfl) (ct_X12_sumIn (k := 2) (f := pk (xw X)) hR0 hC0.2.1 hK0.s rfl (by decide) (fun i hi => (hC0.2.2.1.1.1 i hi).2.2) ?_)
  refine go_iret rfl rfl dX12_count_163 ?_
  exact hK τ hq

theorem ct_mcount10 {l : Launch} {D : va_G} {cA ad : Nat → Nat} {d : Nat} {σ : AS} {K : Option Value → AS → Prop} {X : XS} (hR : RO σ) (hK0 : XK X) (hC : MI σ X) (hK : ∀ τ, DF (xL X) σ τ → K (some (.int (iI (cntA X 10)))) τ) : Call l D cA ad (d + 2) mX12_count [.ref 111, .int (iI 10)] σ K := by
  refine call_go (by decide) (Nat.le_of_ble_eq_true rfl) (show Go l D cA ad (d + 2) mX12_count 0 [.ref 111, .int (iI 10)] [] σ K from ?_)
  refine go_aload_n dX12_count_0 rfl ?_
  refine go_iconst (v := iI 0) dX12_count_1 (by decide) ?_
  refine go_putI fX12_96 rfl dX12_count_2 rfl rfl rfl ?_
  have hq : DF (xL X) σ (sI σ 111 (upd (σ.1 111) 0 (iI 0))) := DF_f0 DF.rf
  have hR0 := hq.RO hR
  have hC0 := hC.q hK0 hq
  generalize sI σ 111 (upd (σ.1 111) 0 (iI 0)) = τ at hq hR0 hC0 ⊢
  refine go_iload_n dX12_count_5 rfl ?_
  refine go_tabIn (off := 158) (tgt := 164) dX12_count_6 (by decide) (by decide) (by decide) (by decide) ?_
  refine go_aload_n dX12_count_164 rfl ?_
  refine go_getR fX12_61 dX12_count_165 rfl (hR0 _ _ _ rfl) ?_
  refine go_bipush (v := iI 22) dX12_count_168 (by decide) ?_
  refine go_iald dX12_count_170 rfl (vp_iI (by decide)) ?_
  rw [show (iI 22).toNatClampNeg = 22 by decide, hC0.2.2.1.1.2.2.1]
  refine go_iret rfl rfl dX12_count_171 ?_
  exact hK τ hq

theorem ct_mcount11 {l : Launch} {D : va_G} {cA ad : Nat → Nat} {d : Nat} {σ : AS} {K : Option Value → AS → Prop} {X : XS} (hR : RO σ) (hK0 : XK X) (hC : MI σ X) (hK : ∀ τ, DF (xL X) σ τ → K (some (.int (iI (cntA X 11)))) τ) : Call l D cA ad (d + 2) mX12_count [.ref 111, .int (iI 11)] σ K := by
  refine call_go (by decide) (Nat.le_of_ble_eq_true rfl) (show Go l D cA ad (d + 2) mX12_count 0 [.ref 111, .int (iI 11)] [] σ K from ?_)
  refine go_aload_n dX12_count_0 rfl ?_
  refine go_iconst (v := iI 0) dX12_count_1 (by decide) ?_
  refine go_putI fX12_96 rfl dX12_count_2 rfl rfl rfl ?_
  have hq : DF (xL X) σ (sI σ 111 (upd (σ.1 111) 0 (iI 0))) := DF_f0 DF.rf
  have hR0 := hq.RO hR
  have hC0 := hC.q hK0 hq
  generalize sI σ 111 (upd (σ.1 111) 0 (iI 0)) = τ at hq hR0 hC0 ⊢
  refine go_iload_n dX12_count_5 rfl ?_
  refine go_tabIn (off := 166) (tgt := 172) dX12_count_6 (by decide) (by decide) (by decide) (by decide) ?_
  refine go_aload_n dX12_count_172 rfl ?_
  refine go_aload_n dX12_count_173 rfl ?_
  refine go_getR fX12_61 dX12_count_174 rfl (hR0 _ _ _ rfl) ?_
  refine go_iconst (v := iI 0) dX12_count_177 (by decide) ?_
  refine go_callV (as := [_, _]) wX12_357 dX12_count_178 rfl rfl rfl rfl (Nat.le_of_ble_eq_true rfl) (ct_X12_sumIn (k := 0) (f := wa (xw X)) hR0 hC0.2.1 hK0.s rfl (by decide) (fun i hi => (hC0.2.2.1.1.1 i hi).1) ?_)
  refine go_aload_n dX12_count_181 rfl ?_
  refine go_iconst (v := iI 3) dX12_count_182 (by decide) ?_
  refine go_callV (as := [_]) wX12_468 dX12_count_183 rfl rfl rfl rfl (Nat.le_of_ble_eq_true rfl) (ct_X12_sumTold (j := 3) hR0 hC0.2.1 hK0.s (by decide) ?_)
  refine go_isub dX12_count_186 ?_
  rw [iI_sub]
  refine go_iret rfl rfl dX12_count_187 ?_
  exact hK τ hq

theorem ct_mcount12 {l : Launch} {D : va_G} {cA ad : Nat → Nat} {d : Nat} {σ : AS} {K : Option Value → AS → Prop} {X : XS} (hR : RO σ) (hK0 : XK X) (hC : MI σ X) (hK : ∀ τ, DF (xL X) σ τ → K (some (.int (iI (cntA X 12)))) τ) : Call l D cA ad (d + 2) mX12_count [.ref 111, .int (iI 12)] σ K := by
  refine call_go (by decide) (Nat.le_of_ble_eq_true rfl) (show Go l D cA ad (d + 2) mX12_count 0 [.ref 111, .int (iI 12)] [] σ K from ?_)
  refine go_aload_n dX12_count_0 rfl ?_
  refine go_iconst (v := iI 0) dX12_count_1 (by decide) ?_
  refine go_putI fX12_96 rfl dX12_count_2 rfl rfl rfl ?_
  have hq : DF (xL X) σ (sI σ 111 (upd (σ.1 111) 0 (iI 0))) := DF_f0 DF.rf
  have hR0 := hq.RO hR
  have hC0 := hC.q hK0 hq
  generalize sI σ 111 (upd (σ.1 111) 0 (iI 0)) = τ at hq hR0 hC0 ⊢
  refine go_iload_n dX12_count_5 rfl ?_
  refine go_tabIn (off := 182) (tgt := 188) dX12_count_6 (by decide) (by decide) (by decide) (by decide) ?_
  refine go_aload_n dX12_count_188 rfl ?_
  refine go_iconst (v := iI 1) dX12_count_189 (by decide) ?_
  refine go_callV (as := [_]) wX12_468 dX12_count_190 rfl rfl rfl rfl (Nat.le_of_ble_eq_true rfl) (ct_X12_sumTold (j := 1) hR0 hC0.2.1 hK0.s (by decide) ?_)
  refine go_aload_n dX12_count_193 rfl ?_
  refine go_aload_n dX12_count_194 rfl ?_
  refine go_getR fX12_61 dX12_count_195 rfl (hR0 _ _ _ rfl) ?_
  refine go_iconst (v := iI 0) dX12_count_198 (by decide) ?_
  refine go_callV (as := [_, _]) wX12_357 dX12_count_199 rfl rfl rfl rfl (Nat.le_of_ble_eq_true rfl) (ct_X12_sumIn (k := 0) (f := wa (xw X)) hR0 hC0.2.1 hK0.s rfl (by decide) (fun i hi => (hC0.2.2.1.1.1 i hi).1) ?_)
  refine go_isub dX12_count_202 ?_
  rw [iI_sub]
  refine go_iret rfl rfl dX12_count_203 ?_
  exact hK τ hq

theorem ct_mcount13 {l : Launch} {D : va_G} {cA ad : Nat → Nat} {d : Nat} {σ : AS} {K : Option Value → AS → Prop} {X : XS} (hR : RO σ) (hK0 : XK X) (hC : MI σ X) (hK : ∀ τ, DF (xL X) σ τ → K (some (.int (iI (cntA X 13)))) τ) : Call l D cA ad (d + 2) mX12_count [.ref 111, .int (iI 13)] σ K := by
  refine call_go (by decide) (Nat.le_of_ble_eq_true rfl) (show Go l D cA ad (d + 2) mX12_count 0 [.ref 111, .int (iI 13)] [] σ K from ?_)
  refine go_aload_n dX12_count_0 rfl ?_
  refine go_iconst (v := iI 0) dX12_count_1 (by decide) ?_
  refine go_putI fX12_96 rfl dX12_count_2 rfl rfl rfl ?_
  have hq : DF (xL X) σ (sI σ 111 (upd (σ.1 111) 0 (iI 0))) := DF_f0 DF.rf
  have hR0 := hq.RO hR
  have hC0 := hC.q hK0 hq
  generalize sI σ 111 (upd (σ.1 111) 0 (iI 0)) = τ at hq hR0 hC0 ⊢
  refine go_iload_n dX12_count_5 rfl ?_
  refine go_tabIn (off := 198) (tgt := 204) dX12_count_6 (by decide) (by decide) (by decide) (by decide) ?_
  refine go_aload_n dX12_count_204 rfl ?_
  refine go_getI fX12_71 dX12_count_205 rfl ?_
  rw [hC0.2.2.2.2.2.2.2.2.2.2.1]
  refine go_iret rfl rfl dX12_count_208 ?_
  exact hK τ hq

theorem ct_mcount14 {l : Launch} {D : va_G} {cA ad : Nat → Nat} {d : Nat} {σ : AS} {K : Option Value → AS → Prop} {X : XS} (hR : RO σ) (hK0 : XK X) (hC : MI σ X) (hK : ∀ τ, DF (xL X) σ τ → K (some (.int (iI (cntA X 14)))) τ) : Call l D cA ad (d + 2) mX12_count [.ref 111, .int (iI 14)] σ K := by
  refine call_go (by decide) (Nat.le_of_ble_eq_true rfl) (show Go l D cA ad (d + 2) mX12_count 0 [.ref 111, .int (iI 14)] [] σ K from ?_)
  refine go_aload_n dX12_count_0 rfl ?_
  refine go_iconst (v := iI 0) dX12_count_1 (by decide) ?_
  refine go_putI fX12_96 rfl dX12_count_2 rfl rfl rfl ?_
  have hq : DF (xL X) σ (sI σ 111 (upd (σ.1 111) 0 (iI 0))) := DF_f0 DF.rf
  have hR0 := hq.RO hR
  have hC0 := hC.q hK0 hq
  generalize sI σ 111 (upd (σ.1 111) 0 (iI 0)) = τ at hq hR0 hC0 ⊢
  refine go_iload_n dX12_count_5 rfl ?_
  refine go_tabIn (off := 203) (tgt := 209) dX12_count_6 (by decide) (by decide) (by decide) (by decide) ?_
  refine go_aload_n dX12_count_209 rfl ?_
  refine go_getI fX12_374 dX12_count_210 rfl ?_
  rw [hC0.2.2.2.2.2.2.2.2.2.2.2]
  refine go_iret rfl rfl dX12_count_213 ?_
  exact hK τ hq

theorem ct_mcount15 {l : Launch} {D : va_G} {cA ad : Nat → Nat} {d : Nat} {σ : AS} {K : Option Value → AS → Prop} {X : XS} (hR : RO σ) (hK0 : XK X) (hC : MI σ X) (hK : ∀ τ, DF (xL X) σ τ → K (some (.int (iI (cntA X 15)))) τ) : Call l D cA ad (d + 2) mX12_count [.ref 111, .int (iI 15)] σ K := by
  refine call_go (by decide) (Nat.le_of_ble_eq_true rfl) (show Go l D cA ad (d + 2) mX12_count 0 [.ref 111, .int (iI 15)] [] σ K from ?_)
  refine go_aload_n dX12_count_0 rfl ?_
  refine go_iconst (v := iI 0) dX12_count_1 (by decide) ?_
  refine go_putI fX12_96 rfl dX12_count_2 rfl rfl rfl ?_
  have hq : DF (xL X) σ (sI σ 111 (upd (σ.1 111) 0 (iI 0))) := DF_f0 DF.rf
  have hR0 := hq.RO hR
  have hC0 := hC.q hK0 hq
  generalize sI σ 111 (upd (σ.1 111) 0 (iI 0)) = τ at hq hR0 hC0 ⊢
  refine go_iload_n dX12_count_5 rfl ?_
  refine go_tabIn (off := 208) (tgt := 214) dX12_count_6 (by decide) (by decide) (by decide) (by decide) ?_
  refine go_aload_n dX12_count_214 rfl ?_
  refine go_getR fX12_61 dX12_count_215 rfl (hR0 _ _ _ rfl) ?_
  refine go_bipush (v := iI 21) dX12_count_218 (by decide) ?_
  refine go_iald dX12_count_220 rfl (vp_iI (by decide)) ?_
  rw [show (iI 21).toNatClampNeg = 21 by decide, hC0.2.2.1.1.2.1]
  refine go_iret rfl rfl dX12_count_221 ?_
  exact hK τ hq

theorem ct_mcount16 {l : Launch} {D : va_G} {cA ad : Nat → Nat} {d : Nat} {σ : AS} {K : Option Value → AS → Prop} {X : XS} (hR : RO σ) (hK0 : XK X) (hC : MI σ X) (hK : ∀ τ, DF (xL X) σ τ → K (some (.int (iI (cntA X 16)))) τ) : Call l D cA ad (d + 2) mX12_count [.ref 111, .int (iI 16)] σ K := by
  refine call_go (by decide) (Nat.le_of_ble_eq_true rfl) (show Go l D cA ad (d + 2) mX12_count 0 [.ref 111, .int (iI 16)] [] σ K from ?_)
  refine go_aload_n dX12_count_0 rfl ?_
  refine go_iconst (v := iI 0) dX12_count_1 (by decide) ?_
  refine go_putI fX12_96 rfl dX12_count_2 rfl rfl rfl ?_
  have hq : DF (xL X) σ (sI σ 111 (upd (σ.1 111) 0 (iI 0))) := DF_f0 DF.rf
  have hR0 := hq.RO hR
  have hC0 := hC.q hK0 hq
  generalize sI σ 111 (upd (σ.1 111) 0 (iI 0)) = τ at hq hR0 hC0 ⊢
  refine go_iload_n dX12_count_5 rfl ?_
  refine go_tabIn (off := 216) (tgt := 222) dX12_count_6 (by decide) (by decide) (by decide) (by decide) ?_
  refine go_aload_n dX12_count_222 rfl ?_
  refine go_getI fX12_303 dX12_count_223 rfl ?_
  rw [hC0.2.2.2.2.2.1.1]
  refine go_iret rfl rfl dX12_count_226 ?_
  exact hK τ hq

theorem ct_mcount17 {l : Launch} {D : va_G} {cA ad : Nat → Nat} {d : Nat} {σ : AS} {K : Option Value → AS → Prop} {X : XS} (hR : RO σ) (hK0 : XK X) (hC : MI σ X) (hK : ∀ τ, DF (xL X) σ τ → K (some (.int (iI (cntA X 17)))) τ) : Call l D cA ad (d + 2) mX12_count [.ref 111, .int (iI 17)] σ K := by
  refine call_go (by decide) (Nat.le_of_ble_eq_true rfl) (show Go l D cA ad (d + 2) mX12_count 0 [.ref 111, .int (iI 17)] [] σ K from ?_)
  refine go_aload_n dX12_count_0 rfl ?_
  refine go_iconst (v := iI 0) dX12_count_1 (by decide) ?_
  refine go_putI fX12_96 rfl dX12_count_2 rfl rfl rfl ?_
  have hq : DF (xL X) σ (sI σ 111 (upd (σ.1 111) 0 (iI 0))) := DF_f0 DF.rf
  have hR0 := hq.RO hR
  have hC0 := hC.q hK0 hq
  generalize sI σ 111 (upd (σ.1 111) 0 (iI 0)) = τ at hq hR0 hC0 ⊢
  refine go_iload_n dX12_count_5 rfl ?_
  refine go_tabIn (off := 221) (tgt := 227) dX12_count_6 (by decide) (by decide) (by decide) (by decide) ?_
  refine go_aload_n dX12_count_227 rfl ?_
  refine go_getR fX12_61 dX12_count_228 rfl (hR0 _ _ _ rfl) ?_
  refine go_bipush (v := iI 24) dX12_count_231 (by decide) ?_
  refine go_iald dX12_count_233 rfl (vp_iI (by decide)) ?_
  rw [show (iI 24).toNatClampNeg = 24 by decide, hC0.2.2.1.2.1]
  refine go_iret rfl rfl dX12_count_234 ?_
  exact hK τ hq

theorem ct_mcount18 {l : Launch} {D : va_G} {cA ad : Nat → Nat} {d : Nat} {σ : AS} {K : Option Value → AS → Prop} {X : XS} (hR : RO σ) (hK0 : XK X) (hC : MI σ X) (hK : ∀ τ, DF (xL X) σ τ → K (some (.int (iI (cntA X 18)))) τ) : Call l D cA ad (d + 2) mX12_count [.ref 111, .int (iI 18)] σ K := by
  refine call_go (by decide) (Nat.le_of_ble_eq_true rfl) (show Go l D cA ad (d + 2) mX12_count 0 [.ref 111, .int (iI 18)] [] σ K from ?_)
  refine go_aload_n dX12_count_0 rfl ?_
  refine go_iconst (v := iI 0) dX12_count_1 (by decide) ?_
  refine go_putI fX12_96 rfl dX12_count_2 rfl rfl rfl ?_
  have hq : DF (xL X) σ (sI σ 111 (upd (σ.1 111) 0 (iI 0))) := DF_f0 DF.rf
  have hR0 := hq.RO hR
  have hC0 := hC.q hK0 hq
  generalize sI σ 111 (upd (σ.1 111) 0 (iI 0)) = τ at hq hR0 hC0 ⊢
  refine go_iload_n dX12_count_5 rfl ?_
  refine go_tabIn (off := 229) (tgt := 235) dX12_count_6 (by decide) (by decide) (by decide) (by decide) ?_
  refine go_aload_n dX12_count_235 rfl ?_
  refine go_getI fX12_306 dX12_count_236 rfl ?_
  rw [hC0.2.2.2.1.1]
  refine go_iret rfl rfl dX12_count_239 ?_
  exact hK τ hq

theorem ct_X12_count {l : Launch} {D : va_G} {cA ad : Nat → Nat} {d : Nat} {σ : AS} {K : Option Value → AS → Prop} {X : XS} {a : Int} (hR : RO σ) (hK0 : XK X) (hC : MI σ X) (ha32 : -2147483648 ≤ a ∧ a < 2147483648) (hK : ∀ τ, DF (xL X) σ τ → K (some (.int (iI (cntA X a)))) τ) : Call l D cA ad (d + 2) mX12_count [.ref 111, .int (iI a)] σ K := by
  by_cases h : 0 ≤ a ∧ a ≤ 18
  · rcases (show a = 0 ∨ a = 1 ∨ a = 2 ∨ a = 3 ∨ a = 4 ∨ a = 5 ∨ a = 6 ∨ a = 7 ∨ a = 8 ∨ a = 9 ∨ a = 10 ∨ a = 11 ∨ a = 12 ∨ a = 13 ∨ a = 14 ∨ a = 15 ∨ a = 16 ∨ a = 17 ∨ a = 18 by omega) with rfl | rfl | rfl | rfl | rfl | rfl | rfl | rfl | rfl | rfl | rfl | rfl | rfl | rfl | rfl | rfl | rfl | rfl | rfl
    · exact ct_mcount0 hR hK0 hC hK
    · exact ct_mcount1 hR hK0 hC hK
    · exact ct_mcount2 hR hK0 hC hK
    · exact ct_mcount3 hR hK0 hC hK
    · exact ct_mcount4 hR hK0 hC hK
    · exact ct_mcount5 hR hK0 hC hK
    · exact ct_mcount6 hR hK0 hC hK
    · exact ct_mcount7 hR hK0 hC hK
    · exact ct_mcount8 hR hK0 hC hK
    · exact ct_mcount9 hR hK0 hC hK
    · exact ct_mcount10 hR hK0 hC hK
    · exact ct_mcount11 hR hK0 hC hK
    · exact ct_mcount12 hR hK0 hC hK
    · exact ct_mcount13 hR hK0 hC hK
    · exact ct_mcount14 hR hK0 hC hK
    · exact ct_mcount15 hR hK0 hC hK
    · exact ct_mcount16 hR hK0 hC hK
    · exact ct_mcount17 hR hK0 hC hK
    · exact ct_mcount18 hR hK0 hC hK
  refine call_go (by decide) (Nat.le_of_ble_eq_true rfl) (show Go l D cA ad (d + 2) mX12_count 0 [.ref 111, .int (iI a)] [] σ K from ?_)
  refine go_aload_n dX12_count_0 rfl ?_
  refine go_iconst (v := iI 0) dX12_count_1 (by decide) ?_
  refine go_putI fX12_96 rfl dX12_count_2 rfl rfl rfl ?_
  have hq : DF (xL X) σ (sI σ 111 (upd (σ.1 111) 0 (iI 0))) := DF_f0 DF.rf
  have hR0 := hq.RO hR
  have hC0 := hC.q hK0 hq
  generalize sI σ 111 (upd (σ.1 111) 0 (iI 0)) = τ at hq hR0 hC0 ⊢
  refine go_iload_n dX12_count_5 rfl ?_
  refine go_tabOut (tgt := 240) dX12_count_6 (by rw [iI_toInt (by omega) (by omega)]; omega) (by decide) ?_
  refine go_ldcw lX12_408 dX12_count_240 ?_
  refine go_iret rfl rfl dX12_count_243 ?_
  rw [cntA_n h] at hK
  exact hK τ hq
def setT (X : XS) (t : List Nat) : XS := (t, xs X, xw X, xl X, xa X, xi X, xm X, xL X, xh X, xp X, xo X, xk X)
theorem XK_t {X : XS} {t : List Nat} (h : XK X) (ht : TOK t) : XK (setT X t) := ⟨ht, h.s, h.w, h.d, h.a, h.i, h.m, h.L, h.p, h.o, h.k⟩
theorem CI_t {σ : AS} {X : XS} {t : List Nat} {r : Nat → Int32} {q : Int32} (hC : CI σ X) (hK : XK X) (h : TC (tset σ r q) t) : CI (tset σ r q) (setT X t) := by
  obtain ⟨c1, c2, c3, c4, c5, c6, c7, c8, c9, c10, c11⟩ := hC
  have e : ∀ k, k ≠ 1 → k ≠ 2 → (tset σ r q).1 k = σ.1 k := fun k h1 h2 => by unfold tset; rw [sI_ne _ _ _ _ h1, sI_ne _ _ _ _ h2]
  refine ⟨h, TwC_fr c2 hK.s.1 hK.s.2.1 (fun k a b => e k (by omega) (by omega)), WC_fr c3 (fun k a b => e k (by omega) (by omega)), ?_, AcC_fr c5 (e _ (by omega) (by omega)) (e _ (by omega) (by omega)), ImC_fr c6 (by rw [e 0 (by omega) (by omega)]) (fun k a b => e k (by omega) (by omega)), MsC_fr c7 (fun k a b => e k (by omega) (by omega)), LsC_fr c8 hK.L.1 (fun k a => e k (by omega) (by omega)), PsC_fr c9 hK.p.1 (by rw [e 0 (by omega) (by omega)]) (fun k a b => e k (by omega) (by omega)), by rw [e 0 (by omega) (by omega)]; exact c10, by rw [e 0 (by omega) (by omega)]; exact c11⟩
  unfold ChC; rw [e 91 (by omega) (by omega), e 92 (by omega) (by omega)]; exact c4
theorem FC_t {σ : AS} {r : Nat → Int32} {q : Int32} : FC σ (tset σ r q) := (FC.rf.sI (by decide)).sI (by decide)
theorem MI_t {σ : AS} {X : XS} {t : List Nat} {r : Nat → Int32} {q : Int32} (hC : MI σ X) (h : TM (uset σ r q) t) : MI (uset σ r q) (setT X t) ∧ FD σ (uset σ r q) := by
  obtain ⟨c1, c2, c3, c4, c5, c6, c7, c8, c9, c10, c11, c12⟩ := hC
  have f : ∀ i, i ≠ 6 → (uset σ r q).1 111 i = σ.1 111 i := fun i hi => by unfold uset; rw [sI_same, upd_ne _ _ _ _ hi]
  have e : ∀ k, k ≠ 111 → k ≠ 112 → (uset σ r q).1 k = σ.1 k := fun k hk h2 => by unfold uset; rw [sI_ne _ _ _ _ hk, sI_ne _ _ _ _ h2]
  refine ⟨⟨h, ?_, ?_, ?_, ?_, ?_, ?_, MeM_sI (MeM_sI c8 (by decide)) (by decide), LtM_sI (LtM_sI c9 (by decide)) (by decide), ?_, ?_, ?_⟩, (FD.rf.sI (by decide)).sI (by decide)⟩
  · unfold TwM; rw [f 26 (by omega), f 27 (by omega), e 116 (by decide) (by decide), e 118 (by decide) (by decide), e 120 (by decide) (by decide)]; exact c2
  · rw [e 124 (by decide) (by decide)]; exact c3
  · unfold AcM; rw [f 40 (by omega), e 128 (by decide) (by decide)]; exact c4
  · unfold ImM; rw [f 47 (by omega), e 132 (by decide) (by decide)]; exact c5
  · unfold MsM; rw [f 45 (by omega), e 129 (by decide) (by decide), e 130 (by decide) (by decide)]; exact c6
  · unfold LsM; rw [f 7 (by omega), f 34 (by omega), e 114 (by decide) (by decide), e 113 (by decide) (by decide)]; exact c7
  · unfold PsM PLM; rw [f 30 (by omega), e 122 (by decide) (by decide), e 123 (by decide) (by decide)]; exact c10
  · rw [f 35 (by omega)]; exact c11
  · rw [f 36 (by omega)]; exact c12
def feedX (X : XS) (a b c e f : Int32) : XS := if (xt X).length + (w5 a b c e f).length ≤ 240 then setT X (xt X ++ w5 a b c e f) else X
def feedA (X : XS) (a b c e f : Int32) : Int := if (xt X).length + (w5 a b c e f).length ≤ 240 then (((xt X).length + (w5 a b c e f).length : Nat) : Int) else -1
theorem feedK {X : XS} {a b c e f : Int32} (h : XK X) : XK (feedX X a b c e f) := by
  unfold feedX
  split
  · exact XK_t h (w5_TOK h.t (by assumption))
  · exact h
def endX (X : XS) (n : Int) : XS := if 0 ≤ n ∧ n ≤ (xt X).length then setT X ((xt X).take n.toNat) else X
def endA (X : XS) (n : Int) : Int := if 0 ≤ n ∧ n ≤ (xt X).length then 1 else 0
theorem TOK_take {t : List Nat} {n : Nat} (h : TOK t) : TOK (t.take n) := ⟨by rw [List.length_take]; have := h.1; omega, fun b hb => h.2 b (List.mem_of_mem_take hb)⟩
theorem endK {X : XS} {n : Int} (h : XK X) : XK (endX X n) := by
  unfold endX
  split
  · exact XK_t h (TOK_take h.t)
  · exact h
theorem setT_self (X : XS) : setT X (xt X) = X := rfl
