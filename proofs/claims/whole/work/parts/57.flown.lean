theorem mn_or (a b : Int) : (a ≤ b ∧ mn a b = a) ∨ (b < a ∧ mn a b = b) := by unfold mn; split <;> omega
theorem mx_or (a b : Int) : (a < b ∧ mx a b = b) ∨ (b ≤ a ∧ mx a b = a) := by unfold mx; split <;> omega
def mostM (s : PS) (w : WT) (k : Nat) : Int := mn (pp s k 2) (mn (mx 0 (wa w (hiE s w k) - pp s k 3)) (pd s (loE s w k) 1 - wa w (loE s w k)))
theorem mostM_bd {s : PS} {w : WT} {k : Nat} (hS : TwK s) (hw : WK s w) (hk : k < nQ s) : 0 ≤ mostM s w k ∧ mostM s w k ≤ 9 ∧ -1000 ≤ mostF s w k ∧ mostF s w k ≤ 9 ∧ (mostM s w k = mostF s w k ∨ mostM s w k = 0 ∧ mostF s w k ≤ 0) := by
  have hr := evF_r hS hw hk
  have hhl := hiE_ok (w := w) hS hk
  have hwO := hw.1 _ hhl.2.1
  have hO := hS.2.2.2.1 _ hhl.2.1
  unfold PdK at hO
  unfold mostM mostF
  have a1 := mx_or 0 (wa w (hiE s w k) - pp s k 3)
  have a2 := mn_or (mx 0 (wa w (hiE s w k) - pp s k 3)) (pd s (loE s w k) 1 - wa w (loE s w k))
  have a3 := mn_or (pp s k 2) (mn (mx 0 (wa w (hiE s w k) - pp s k 3)) (pd s (loE s w k) 1 - wa w (loE s w k)))
  have a4 := mn_or (wa w (hiE s w k) - pp s k 3) (pd s (loE s w k) 1 - wa w (loE s w k))
  have a5 := mn_or (pp s k 2) (mn (wa w (hiE s w k) - pp s k 3) (pd s (loE s w k) 1 - wa w (loE s w k)))
  omega
theorem fl_m {s : PS} {w : WT} {k : Nat} {hv : Option (List CL)} (hS : TwK s) (hw : WK s w) (hk : k < nQ s) (hg : gapF s w k ≠ 0) : mx 0 (mn (mostM s w k) (lwV hv (evF s w k))) = flF s hv w k := by
  have h := mostM_bd hS hw hk
  unfold flF
  rcases h.2.2.2.2 with e | ⟨e, e2⟩
  · by_cases c : mostF s w k ≤ 0
    · rw [if_pos (Or.inr c), e]
      have a1 := mn_or (mostF s w k) (lwV hv (evF s w k))
      have a2 := mx_or 0 (mn (mostF s w k) (lwV hv (evF s w k)))
      omega
    · rw [if_neg (by omega), e]
  · rw [if_pos (Or.inr e2), e]
    have a1 := mn_or 0 (lwV hv (evF s w k))
    have a2 := mx_or 0 (mn 0 (lwV hv (evF s w k)))
    omega
theorem flF_bd {s : PS} {w : WT} {k : Nat} {hv : Option (List CL)} (hS : TwK s) (hw : WK s w) (hk : k < nQ s) : 0 ≤ flF s hv w k ∧ flF s hv w k ≤ 9 ∧ flF s hv w k ≤ wa w (hiE s w k) ∧ flF s hv w k ≤ pd s (loE s w k) 1 - wa w (loE s w k) := by
  have hr := evF_r hS hw hk
  have hhl := hiE_ok (w := w) hS hk
  have hwO := hw.1 _ hhl.2.1
  unfold flF
  split
  · omega
  · unfold mostF
    have a4 := mn_or (wa w (hiE s w k) - pp s k 3) (pd s (loE s w k) 1 - wa w (loE s w k))
    have a5 := mn_or (pp s k 2) (mn (wa w (hiE s w k) - pp s k 3) (pd s (loE s w k) 1 - wa w (loE s w k)))
    have a6 := mn_or (mn (pp s k 2) (mn (wa w (hiE s w k) - pp s k 3) (pd s (loE s w k) 1 - wa w (loE s w k)))) (lwV hv (evF s w k))
    have a7 := mx_or 0 (mn (mn (pp s k 2) (mn (wa w (hiE s w k) - pp s k 3) (pd s (loE s w k) 1 - wa w (loE s w k)))) (lwV hv (evF s w k)))
    rename_i hx
    unfold mostF at hx
    omega
theorem FrN.wm {c c' : Nat} {σ τ : AS} {w : WT} (h : FrN c' σ τ) (hW : WM σ c w) (h1 : c ≠ 111) (h2 : c ≠ 115) (h3 : c ≠ 127) (h4 : c ≠ c') : WM τ c w := by
  unfold WM
  rw [h.1 c h1 h2 h3 h4]
  exact hW
theorem lwV_bd {Ls : LwT} {h : Int} {ev : Nat → Int} (hLk : LsK Ls h) (he : ∀ j, j < 6 → bd6 (ev j)) : bd6 (lwV (hLw Ls h) ev) := by
  unfold hLw
  by_cases c : h = -1
  · rw [if_pos c]
    have := he 0 (by decide)
    unfold bd6 at this ⊢
    show -1000000 ≤ ev 0 / 2 ∧ ev 0 / 2 ≤ 1000000
    omega
  · rw [if_neg c]
    have h1 := hLk.2.1
    have h2 := hLk.2.2.1
    have hx : Ls[h.toNat]? = some Ls[h.toNat] := List.getElem?_eq_getElem (by omega)
    rw [hx]
    exact lawV_bd he _ (hLk.2.2.2 _ (List.getElem_mem (by omega))).2.2.2
theorem f137 {l : Launch} {D : va_G} {cA ad : Nat → Nat} {d : Nat} {σ : AS} {K : Option Value → AS → Prop} {s : PS} {w : WT} {c k : Nat} {v : Int} {v5 v7 : Value} (hR : RO σ) (hT : TwM σ s) (hS : TwK s) (hc : sh[c]? = some (1, 205)) (hW : WM σ c w) (hw : WK s w) (hk : k < nQ s) (hv : bd6 v) (hK : K (some (.int (iI (mx 0 (mn (mostM s w k) v))))) σ) : Go l D cA ad (d + 1) mX12_flowOf 137 [.ref 111, .ref c, .int (iI k), .int (iI (hiE s w k)), .int (iI (loE s w k)), v5, .int (iI v), v7] [] σ K := by
  unfold bd6 at hv
  have hP7 := hS.1
  have hQ9 := hS.2.1
  have hpe := pe_ok hS hk
  have hkq := hS.2.2.2.2 k hk
  unfold PpK at hkq
  have hhl := hiE_ok (w := w) hS hk
  have hr := evF_r hS hw hk
  have hwO := hw.1 _ hhl.2.1
  have hO := hS.2.2.2.1 _ hhl.2.1
  unfold PdK at hO
  have hmb := mostM_bd hS hw hk
  refine go_aload_n dX12_flowOf_137 rfl ?_
  refine go_getR fX12_49 dX12_flowOf_138 rfl (hR _ _ _ rfl) ?_
  refine go_iconst (v := iI 5) dX12_flowOf_141 (by decide) ?_
  refine go_iload_n dX12_flowOf_142 rfl ?_
  refine go_imul dX12_flowOf_143 ?_
  refine go_iconst (v := iI 2) dX12_flowOf_144 (by decide) ?_
  refine go_iadd dX12_flowOf_145 ?_
  refine go_iald dX12_flowOf_146 rfl (by rw [iI_mul, iI_add]; exact vp_iI (by omega)) ?_
  rw [iI_mul, iI_add, iI_cl (by omega), show (5 * (k : Int) + 2).toNat = 5 * k + 2 by omega, hT.2.2.2.2 k 2 hk (by decide)]
  refine go_iconst (v := iI 0) dX12_flowOf_147 (by decide) ?_
  refine go_aload_n dX12_flowOf_148 rfl ?_
  refine go_iload_n dX12_flowOf_149 rfl ?_
  refine go_callS (as := [_, _]) wX12_312 dX12_flowOf_150 rfl rfl (Nat.le_of_ble_eq_true rfl) (ct_X12_water hc hW (by omega) ?_)
  refine go_aload_n dX12_flowOf_153 rfl ?_
  refine go_getR fX12_49 dX12_flowOf_154 rfl (hR _ _ _ rfl) ?_
  refine go_iconst (v := iI 5) dX12_flowOf_157 (by decide) ?_
  refine go_iload_n dX12_flowOf_158 rfl ?_
  refine go_imul dX12_flowOf_159 ?_
  refine go_iconst (v := iI 3) dX12_flowOf_160 (by decide) ?_
  refine go_iadd dX12_flowOf_161 ?_
  refine go_iald dX12_flowOf_162 rfl (by rw [iI_mul, iI_add]; exact vp_iI (by omega)) ?_
  rw [iI_mul, iI_add, iI_cl (by omega), show (5 * (k : Int) + 3).toNat = 5 * k + 3 by omega, hT.2.2.2.2 k 3 hk (by decide)]
  refine go_isub dX12_flowOf_163 ?_
  rw [iI_sub]
  refine go_max wX12_328 dX12_flowOf_164 (Nat.le_of_ble_eq_true rfl) ?_
  rw [iI_mx (by omega)]
  refine go_aload_n dX12_flowOf_167 rfl ?_
  refine go_iload dX12_flowOf_168 rfl ?_
  refine go_iconst (v := iI 1) dX12_flowOf_170 (by decide) ?_
  refine go_callV (as := [_, _]) wX12_300 dX12_flowOf_171 rfl rfl rfl rfl (Nat.le_of_ble_eq_true rfl) (ct_X12_told (j := 1) hR hT hS.1 hhl.2.1 (by decide) ?_)
  refine go_aload_n dX12_flowOf_174 rfl ?_
  refine go_iload dX12_flowOf_175 rfl ?_
  refine go_callS (as := [_, _]) wX12_312 dX12_flowOf_177 rfl rfl (Nat.le_of_ble_eq_true rfl) (ct_X12_water hc hW (by omega) ?_)
  refine go_isub dX12_flowOf_180 ?_
  rw [iI_sub]
  refine go_min wX12_330 dX12_flowOf_181 (Nat.le_of_ble_eq_true rfl) ?_
  rw [iI_mn (by have := mx_or 0 (wa w (hiE s w k) - pp s k 3); omega)]
  refine go_min wX12_330 dX12_flowOf_184 (Nat.le_of_ble_eq_true rfl) ?_
  rw [iI_mn (by have := mx_or 0 (wa w (hiE s w k) - pp s k 3); have := mn_or (mx 0 (wa w (hiE s w k) - pp s k 3)) (pd s (loE s w k) 1 - wa w (loE s w k)); omega), show mn (pp s k 2) (mn (mx 0 (wa w (hiE s w k) - pp s k 3)) (pd s (loE s w k) 1 - wa w (loE s w k))) = mostM s w k from rfl]
  refine go_istore dX12_flowOf_187 (Nat.le_of_ble_eq_true rfl) rfl ?_
  refine go_iconst (v := iI 0) dX12_flowOf_189 (by decide) ?_
  refine go_iload dX12_flowOf_190 rfl ?_
  refine go_iload dX12_flowOf_192 rfl ?_
  refine go_min wX12_330 dX12_flowOf_194 (Nat.le_of_ble_eq_true rfl) ?_
  rw [iI_mn (by omega)]
  refine go_max wX12_328 dX12_flowOf_197 (Nat.le_of_ble_eq_true rfl) ?_
  rw [iI_mx (by have := mn_or (mostM s w k) v; omega)]
  refine go_iret rfl rfl dX12_flowOf_200 ?_
  exact hK
theorem evR_evF {s : PS} {w : WT} (hS : TwK s) (hw : WK s w) {k : Nat} (hk : k < nQ s) : EvR (evF s w k) := by
  have hdy := hw.2.2.2
  have hg := gap_bd hS hw hk
  have hr := evF_r hS hw hk
  show 0 ≤ gapF s w k ∧ gapF s w k < 110 ∧ 0 ≤ pp s k 2 ∧ pp s k 2 < 10 ∧ 0 ≤ wa w (hiE s w k) ∧ wa w (hiE s w k) < 100 ∧ 0 ≤ pp s k 3 ∧ pp s k 3 < 100 ∧ 0 ≤ wa w (loE s w k) ∧ wa w (loE s w k) < 100 ∧ 0 ≤ (dy w : Int) ∧ (dy w : Int) ≤ 20000
  omega
theorem ct_X12_flowOf {l : Launch} {D : va_G} {cA ad : Nat → Nat} {d : Nat} {σ : AS} {K : Option Value → AS → Prop} {s : PS} {w : WT} {Ls : LwT} {h : Int} {c k : Nat} (hR : RO σ) (hT : TwM σ s) (hS : TwK s) (hc : sh[c]? = some (1, 205)) (hW : WM σ c w) (hw : WK s w) (hc111 : c ≠ 111) (hc115 : c ≠ 115) (hc127 : c ≠ 127) (hLk : LsK Ls h) (hL : LsM σ Ls h) (hMe : MeM σ Ls) (hLt : LtM σ) (hk : k < nQ s) (hK : ∀ τ, FrN 127 σ τ → MeM τ Ls → LtM τ → K (some (.int (iI (flF s (hLw Ls h) w k)))) τ) : Call l D cA ad (d + 33) mX12_flowOf [.ref 111, .ref c, .int (iI k)] σ K := by
  have hP7 := hS.1
  have hQ9 := hS.2.1
  have hpe := pe_ok hS hk
  have hkq := hS.2.2.2.2 k hk
  unfold PpK at hkq
  have hhl := hiE_ok (w := w) hS hk
  have hr := evF_r hS hw hk
  have hwO := hw.1 _ hhl.2.1
  have hO := hS.2.2.2.1 _ hhl.2.1
  unfold PdK at hO
  have hmb := mostM_bd hS hw hk
  have hgb := gap_bd hS hw hk
  have hLk0 := hLk.1
  have hLk1 := hLk.2.1
  have hLk2 := hLk.2.2.1
  have hWr : ∀ r, WM (sI σ 115 r) c w := fun r => by unfold WM; rw [sI_ne _ _ _ _ hc115]; exact hW
  refine call_go (by decide) (Nat.le_of_ble_eq_true rfl) (show Go l D cA ad (d + 33) mX12_flowOf 0 [.ref 111, .ref c, .int (iI k), .null, .null, .null, .null, .null] [] σ K from ?_)
  refine go_aload_n dX12_flowOf_0 rfl ?_
  refine go_aload_n dX12_flowOf_1 rfl ?_
  refine go_iload_n dX12_flowOf_2 rfl ?_
  refine go_callV (as := [_, _]) wX12_319 dX12_flowOf_3 rfl rfl rfl rfl (Nat.le_of_ble_eq_true rfl) (ct_X12_highOf hR hT hS hc hW hw hk (fun hg => ?_) (fun hg => ?_))
  · refine go_istore_n dX12_flowOf_6 (Nat.le_of_ble_eq_true rfl) rfl ?_
    refine go_iload_n dX12_flowOf_7 rfl ?_
    refine go_iconst (v := iI (-1)) dX12_flowOf_8 (by decide) ?_
    refine go_icmp_ne (tgt := 14) dX12_flowOf_9 (by decide) (fun h9 => ?_) (fun h9 => ?_)
    · exact absurd h9 (by decide)
    · refine go_iconst (v := iI 0) dX12_flowOf_12 (by decide) ?_
      refine go_iret rfl rfl dX12_flowOf_13 ?_
      have e : flF s (hLw Ls h) w k = 0 := by unfold flF; rw [if_pos (Or.inl hg)]
      have h9 := hK σ FrN.rf hMe hLt
      rw [e] at h9
      exact h9
  · refine go_istore_n dX12_flowOf_6 (Nat.le_of_ble_eq_true rfl) rfl ?_
    refine go_iload_n dX12_flowOf_7 rfl ?_
    refine go_iconst (v := iI (-1)) dX12_flowOf_8 (by decide) ?_
    refine go_icmp_ne (tgt := 14) dX12_flowOf_9 (by decide) (fun h9 => ?_) (fun h9 => ?_)
    · refine go_aload_n dX12_flowOf_14 rfl ?_
      refine go_iload_n dX12_flowOf_15 rfl ?_
      refine go_iload_n dX12_flowOf_16 rfl ?_
      refine go_callV (as := [_, _]) wX12_322 dX12_flowOf_17 rfl rfl rfl rfl (Nat.le_of_ble_eq_true rfl) (ct_X12_otherOf (w := w) hR hT hS hk ?_)
      refine go_istore dX12_flowOf_20 (Nat.le_of_ble_eq_true rfl) rfl ?_
      refine go_aload_n dX12_flowOf_22 rfl ?_
      refine go_aload_n dX12_flowOf_23 rfl ?_
      refine go_iload_n dX12_flowOf_24 rfl ?_
      refine go_callV (as := [_, _]) wX12_316 dX12_flowOf_25 rfl rfl rfl rfl (Nat.le_of_ble_eq_true rfl) (ct_X12_level hR hT hS hc hW hhl.1 ?_)
      refine go_aload_n dX12_flowOf_28 rfl ?_
      refine go_aload_n dX12_flowOf_29 rfl ?_
      refine go_iload dX12_flowOf_30 rfl ?_
      refine go_callV (as := [_, _]) wX12_316 dX12_flowOf_32 rfl rfl rfl rfl (Nat.le_of_ble_eq_true rfl) (ct_X12_level hR hT hS hc hW hhl.2.1 ?_)
      refine go_isub dX12_flowOf_35 ?_
      rw [iI_sub, show lev s w (hiE s w k) - lev s w (loE s w k) = gapF s w k from rfl]
      refine go_istore dX12_flowOf_36 (Nat.le_of_ble_eq_true rfl) rfl ?_
      refine go_iload dX12_flowOf_38 rfl ?_
      refine go_iconst (v := iI 2) dX12_flowOf_40 (by decide) ?_
      refine go_idiv dX12_flowOf_41 (by decide) ?_
      rw [iI_div (by omega) (by decide)]
      refine go_istore dX12_flowOf_42 (Nat.le_of_ble_eq_true rfl) rfl ?_
      refine go_aload_n dX12_flowOf_44 rfl ?_
      refine go_getI fX12_67 dX12_flowOf_45 rfl ?_
      refine go_iconst (v := iI (-1)) dX12_flowOf_48 (by decide) ?_
      refine go_icmp_eq (tgt := 137) dX12_flowOf_49 (by decide) (fun h49 => ?_) (fun h49 => ?_)
      · rw [hL.2.1, iI_eq (by omega)] at h49
        have hV : lwV (hLw Ls h) (evF s w k) = gapF s w k / 2 := by unfold hLw; rw [if_pos h49]; rfl
        simp only [List.set]
        have hvb := lwV_bd hLk (evF_bd hS hw hk)
        rw [hV] at hvb
        refine f137 hR hT hS hc hW hw hk hvb ?_
        rw [← hV, fl_m hS hw hk hg]
        exact hK σ FrN.rf hMe hLt
      · rw [hL.2.1, iI_eq (by omega)] at h49
        obtain ⟨n, hh⟩ : ∃ n : Nat, h = n := ⟨h.toNat, by omega⟩
        have hn : n < Ls.length := by omega
        have hx : Ls[n]? = some Ls[n] := List.getElem?_eq_getElem hn
        have hV : lwV (hLw Ls h) (evF s w k) = lawV (evF s w k) (Ls[n]).2 := by unfold hLw; rw [if_neg (by omega), hh, Int.toNat_natCast, hx]; rfl
        refine go_aload_n dX12_flowOf_52 rfl ?_
        refine go_getR fX12_20 dX12_flowOf_53 rfl (hR _ _ _ rfl) ?_
        refine go_bipush (v := iI 100) dX12_flowOf_56 (by decide) ?_
        refine go_iload dX12_flowOf_58 rfl ?_
        refine go_iast dX12_flowOf_60 rfl (vp_iI (by decide)) ?_
        refine go_aload_n dX12_flowOf_61 rfl ?_
        refine go_getR fX12_20 dX12_flowOf_62 rfl (hR _ _ _ rfl) ?_
        refine go_bipush (v := iI 109) dX12_flowOf_65 (by decide) ?_
        refine go_aload_n dX12_flowOf_67 rfl ?_
        refine go_getR fX12_49 dX12_flowOf_68 rfl (hR _ _ _ rfl) ?_
        refine go_iconst (v := iI 5) dX12_flowOf_71 (by decide) ?_
        refine go_iload_n dX12_flowOf_72 rfl ?_
        refine go_imul dX12_flowOf_73 ?_
        refine go_iconst (v := iI 2) dX12_flowOf_74 (by decide) ?_
        refine go_iadd dX12_flowOf_75 ?_
        refine go_iald dX12_flowOf_76 rfl (by rw [iI_mul, iI_add]; exact vp_iI (by omega)) ?_
        rw [show ∀ r, (sI σ 115 r).1 120 = σ.1 120 from fun r => sI_ne _ _ _ _ (by decide)]
        rw [iI_mul, iI_add, iI_cl (by omega), show (5 * (k : Int) + 2).toNat = 5 * k + 2 by omega, hT.2.2.2.2 k 2 hk (by decide)]
        refine go_iast dX12_flowOf_77 rfl (vp_iI (by decide)) ?_
        rw [sI_same, sI_sI]
        refine go_aload_n dX12_flowOf_78 rfl ?_
        refine go_getR fX12_20 dX12_flowOf_79 rfl (hR _ _ _ rfl) ?_
        refine go_bipush (v := iI 119) dX12_flowOf_82 (by decide) ?_
        refine go_aload_n dX12_flowOf_84 rfl ?_
        refine go_iload_n dX12_flowOf_85 rfl ?_
        refine go_callS (as := [_, _]) wX12_312 dX12_flowOf_86 rfl rfl (Nat.le_of_ble_eq_true rfl) (ct_X12_water hc (hWr _) (by omega) ?_)
        refine go_iast dX12_flowOf_89 rfl (vp_iI (by decide)) ?_
        rw [sI_same, sI_sI]
        refine go_aload_n dX12_flowOf_90 rfl ?_
        refine go_getR fX12_20 dX12_flowOf_91 rfl (hR _ _ _ rfl) ?_
        refine go_bipush (v := iI 104) dX12_flowOf_94 (by decide) ?_
        refine go_aload_n dX12_flowOf_96 rfl ?_
        refine go_getR fX12_49 dX12_flowOf_97 rfl (hR _ _ _ rfl) ?_
        refine go_iconst (v := iI 5) dX12_flowOf_100 (by decide) ?_
        refine go_iload_n dX12_flowOf_101 rfl ?_
        refine go_imul dX12_flowOf_102 ?_
        refine go_iconst (v := iI 3) dX12_flowOf_103 (by decide) ?_
        refine go_iadd dX12_flowOf_104 ?_
        refine go_iald dX12_flowOf_105 rfl (by rw [iI_mul, iI_add]; exact vp_iI (by omega)) ?_
        rw [show ∀ r, (sI σ 115 r).1 120 = σ.1 120 from fun r => sI_ne _ _ _ _ (by decide)]
        rw [iI_mul, iI_add, iI_cl (by omega), show (5 * (k : Int) + 3).toNat = 5 * k + 3 by omega, hT.2.2.2.2 k 3 hk (by decide)]
        refine go_iast dX12_flowOf_106 rfl (vp_iI (by decide)) ?_
        rw [sI_same, sI_sI]
        refine go_aload_n dX12_flowOf_107 rfl ?_
        refine go_getR fX12_20 dX12_flowOf_108 rfl (hR _ _ _ rfl) ?_
        refine go_bipush (v := iI 108) dX12_flowOf_111 (by decide) ?_
        refine go_aload_n dX12_flowOf_113 rfl ?_
        refine go_iload dX12_flowOf_114 rfl ?_
        refine go_callS (as := [_, _]) wX12_312 dX12_flowOf_116 rfl rfl (Nat.le_of_ble_eq_true rfl) (ct_X12_water hc (hWr _) (by omega) ?_)
        refine go_iast dX12_flowOf_119 rfl (vp_iI (by decide)) ?_
        rw [sI_same, sI_sI]
        refine go_aload_n dX12_flowOf_120 rfl ?_
        refine go_getR fX12_20 dX12_flowOf_121 rfl (hR _ _ _ rfl) ?_
        refine go_bipush (v := iI 116) dX12_flowOf_124 (by decide) ?_
        refine go_aload_n dX12_flowOf_126 rfl ?_
        refine go_bipush (v := iI 23) dX12_flowOf_127 (by decide) ?_
        refine go_iald dX12_flowOf_129 hc (vp_iI (by decide)) ?_
        rw [show (iI 23).toNatClampNeg = 23 by decide, (hWr _).2.2.2]
        refine go_iast dX12_flowOf_130 rfl (vp_iI (by decide)) ?_
        rw [sI_same, sI_sI]
        simp only [List.set]
        have hEV : ∀ R, R = upd (upd (upd (upd (upd (upd (σ.1 115) (iI 100).toNatClampNeg (iI (gapF s w k))) (iI 109).toNatClampNeg (iI (pp s k 2))) (iI 119).toNatClampNeg (iI (wa w (hiE s w k)))) (iI 104).toNatClampNeg (iI (pp s k 3))) (iI 108).toNatClampNeg (iI (wa w (loE s w k)))) (iI 116).toNatClampNeg (iI (dy w : Int)) → EV (sI σ 115 R) (evF s w k) := by
          intro R hRr j hj
          refine ⟨?_, evF_bd hS hw hk j hj⟩
          rw [sI_same, hRr]
          rcases (show j = 0 ∨ j = 1 ∨ j = 2 ∨ j = 3 ∨ j = 4 ∨ j = 5 by omega) with rfl | rfl | rfl | rfl | rfl | rfl
          · rw [sc7.1]; rfl
          · rw [sc7.2.1]; rfl
          · rw [sc7.2.2.1]; rfl
          · rw [sc7.2.2.2.1]; rfl
          · rw [sc7.2.2.2.2.1]; rfl
          · rw [sc7.2.2.2.2.2]; rfl
        generalize hRx : upd (upd (upd (upd (upd (upd (σ.1 115) (iI 100).toNatClampNeg (iI (gapF s w k))) (iI 109).toNatClampNeg (iI (pp s k 2))) (iI 119).toNatClampNeg (iI (wa w (hiE s w k)))) (iI 104).toNatClampNeg (iI (pp s k 3))) (iI 108).toNatClampNeg (iI (wa w (loE s w k)))) (iI 116).toNatClampNeg (iI (dy w : Int)) = R
        have hE := hEV R hRx.symm
        have fr0 : FrN 127 σ (sI σ 115 R) := FrN.rf.sI (Or.inl rfl) (by decide)
        refine go_aload_n dX12_flowOf_131 rfl ?_
        refine go_callV (as := []) wX12_325 dX12_flowOf_132 rfl rfl rfl rfl (Nat.le_of_ble_eq_true rfl) (ct_X12_worthNow (FrN.RO fr0 hR) hLk (fr0.LsM hL (by decide) (by decide)) (fun i hi => hMe i hi) hE (evR_evF hS hw hk) hh hn (fun τ fr hMe2 hE2 => ?_))
        refine go_istore dX12_flowOf_135 (Nat.le_of_ble_eq_true rfl) rfl ?_
        simp only [List.set]
        have hvb := lwV_bd hLk (evF_bd hS hw hk)
        rw [hV] at hvb
        have fr2 := fr0.tr fr
        refine f137 (fr2.RO hR) (fr2.TwM hT (by decide) (by decide) (by decide)) hS hc (fr2.wm hW hc111 hc115 hc127 hc127) hw hk hvb ?_
        rw [← hV, fl_m hS hw hk hg]
        exact hK τ fr2 hMe2 ⟨_, hE2⟩
    · exfalso
      rw [iI_eq (by omega)] at h9
      omega

