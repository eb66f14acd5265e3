theorem WC_day {σ : AS} {b : Nat} {w : WT} (hW : WC σ b w) : WC (sI σ b (upd (σ.1 b) 5 (iI ((dy w : Int) + 1)))) b (nxtD w) := by
  refine ⟨fun i hi => ⟨?_, ?_, ?_⟩, ?_, ?_, ?_⟩
  · rw [sI_ne _ _ _ _ (by omega)]; exact (hW.1 i hi).1
  · rw [sI_ne _ _ _ _ (by omega)]; exact (hW.1 i hi).2.1
  · rw [sI_ne _ _ _ _ (by omega)]; exact (hW.1 i hi).2.2
  · rw [sI_same, upd_ne _ _ _ _ (by decide)]; exact hW.2.1
  · rw [sI_same, upd_ne _ _ _ _ (by decide)]; exact hW.2.2.1
  · rw [sI_same, upd_same]; rfl
theorem p61 {l : Launch} {D : va_G} {cA ad : Nat → Nat} {d : Nat} {σ : AS} {K : Option Value → AS → Prop} {s : PS} {W1 : WT} {b : Nat} {rain : Int} (hS : TwK s) (hb : WB b) (hb65 : 65 < b) (hK : ∀ τ, FrW b σ τ → WC τ b (nxtD W1) → K none τ) : ∀ (n k : Nat) (w : WT) (τ : AS), n + k = nP s → RO τ → TwC τ s → WC τ b w → WK s w → FrW b σ τ → lvsF s n k w = W1 → Go l D cA ad (d + 2) mX2_passDay 61 [.ref 48, .ref b, .int (iI rain), .int (iI k)] [] τ K := by
  have hP7 := hS.1
  have hQ9 := hS.2.1
  intro n
  induction n using Nat.strongRecOn with
  | _ n ih =>
  intro k w τ hn hR hT hW hw hfr hres
  refine go_iload_n dX2_passDay_61 rfl ?_
  refine go_aload_n dX2_passDay_62 rfl ?_
  refine go_getR fX2_21 dX2_passDay_63 rfl (hR _ _ _ rfl) ?_
  refine go_getI fX2_75 dX2_passDay_66 rfl ?_
  refine go_icmp_ge (tgt := 84) dX2_passDay_69 (by decide) (fun h69 => ?_) (fun h69 => ?_)
  · rw [hT.1, iI_le (by omega)] at h69
    refine go_aload_n dX2_passDay_84 rfl ?_
    refine go_dup dX2_passDay_85 rfl ?_
    refine go_getI fX2_54 dX2_passDay_86 hb.1 ?_
    refine go_iconst (v := iI 1) dX2_passDay_89 (by decide) ?_
    refine go_iadd dX2_passDay_90 ?_
    refine go_putI fX2_54 rfl dX2_passDay_91 hb.1 rfl rfl ?_
    refine go_vret rfl dX2_passDay_94 ?_
    rw [hW.2.2.2, iI_add]
    refine hK _ (hfr.sI (Nat.le_refl _) (by omega)) ?_
    have hn0 : n = 0 := by omega
    subst hn0
    have e : w = W1 := hres
    subst e
    exact WC_day hW
  · rw [hT.1, iI_le (by omega)] at h69
    refine go_aload_n dX2_passDay_72 rfl ?_
    refine go_iload_n dX2_passDay_73 rfl ?_
    refine go_aload_n dX2_passDay_74 rfl ?_
    refine go_callV (as := [_, _]) wX2_82 dX2_passDay_75 rfl rfl rfl rfl (Nat.le_of_ble_eq_true rfl) (ct_X2_live hR hT hS hb hW hw hb65 (by omega) (fun τ' fr hW' => ?_))
    refine go_iincI dX2_passDay_78 rfl (Nat.le_of_ble_eq_true rfl) rfl ?_
    refine go_goto (tgt := 61) dX2_passDay_81 (by decide) ?_
    simp only [List.set, iI_add]
    obtain ⟨m, rfl⟩ : ∃ m, n = m + 1 := ⟨n - 1, by omega⟩
    exact ih m (by omega) (k + 1) (livF s k w) τ' (by omega) (fr.RO hR) (fr.twc hb65 hS hT) hW' (livF_ok hS hw (by omega)) (hfr.tr fr) hres
theorem p35 {l : Launch} {D : va_G} {cA ad : Nat → Nat} {d : Nat} {σ : AS} {K : Option Value → AS → Prop} {s : PS} {W1 : WT} {b : Nat} {rain : Int} (hS : TwK s) (hb : WB b) (hb65 : 65 < b) (hr : 0 ≤ rain ∧ rain ≤ 1000) (hK : ∀ τ, FrW b σ τ → WC τ b (nxtD (lvsF s (nP s) 0 W1)) → K none τ) : ∀ (n k : Nat) (w : WT) (τ : AS), n + k = nP s → RO τ → TwC τ s → WC τ b w → WK s w → FrW b σ τ → wesF s rain n k w = W1 → Go l D cA ad (d + 2) mX2_passDay 35 [.ref 48, .ref b, .int (iI rain), .int (iI k)] [] τ K := by
  have hP7 := hS.1
  have hQ9 := hS.2.1
  intro n
  induction n using Nat.strongRecOn with
  | _ n ih =>
  intro k w τ hn hR hT hW hw hfr hres
  refine go_iload_n dX2_passDay_35 rfl ?_
  refine go_aload_n dX2_passDay_36 rfl ?_
  refine go_getR fX2_21 dX2_passDay_37 rfl (hR _ _ _ rfl) ?_
  refine go_getI fX2_75 dX2_passDay_40 rfl ?_
  refine go_icmp_ge (tgt := 59) dX2_passDay_43 (by decide) (fun h43 => ?_) (fun h43 => ?_)
  · rw [hT.1, iI_le (by omega)] at h43
    refine go_iconst (v := iI 0) dX2_passDay_59 (by decide) ?_
    refine go_istore_n dX2_passDay_60 (Nat.le_of_ble_eq_true rfl) rfl ?_
    simp only [List.set]
    have hn0 : n = 0 := by omega
    subst hn0
    have e : w = W1 := hres
    subst e
    exact p61 hS hb hb65 (fun τ' fr hW' => hK τ' (hfr.tr fr) hW') (nP s) 0 w τ (by omega) hR hT hW hw FrW.rf rfl
  · rw [hT.1, iI_le (by omega)] at h43
    refine go_aload_n dX2_passDay_46 rfl ?_
    refine go_iload_n dX2_passDay_47 rfl ?_
    refine go_aload_n dX2_passDay_48 rfl ?_
    refine go_iload_n dX2_passDay_49 rfl ?_
    refine go_callV (as := [_, _, _]) wX2_78 dX2_passDay_50 rfl rfl rfl rfl (Nat.le_of_ble_eq_true rfl) (ct_X2_weather hR hT hS hb hW hw hb65 (by omega) hr (fun τ' fr hW' => ?_))
    refine go_iincI dX2_passDay_53 rfl (Nat.le_of_ble_eq_true rfl) rfl ?_
    refine go_goto (tgt := 35) dX2_passDay_56 (by decide) ?_
    simp only [List.set, iI_add]
    obtain ⟨m, rfl⟩ : ∃ m, n = m + 1 := ⟨n - 1, by omega⟩
    exact ih m (by omega) (k + 1) (weaF s rain k w) τ' (by omega) (fr.RO hR) (fr.twc hb65 hS hT) hW' (weaF_ok hS hw (by omega) hr.1) (hfr.tr fr) hres
theorem p2 {l : Launch} {D : va_G} {cA ad : Nat → Nat} {d : Nat} {σ : AS} {K : Option Value → AS → Prop} {s : PS} {W1 : WT} {Ls : LwT} {h : Int} {b : Nat} {rain : Int} (hS : TwK s) (hb : WB b) (hb65 : 65 < b) (hLk : LsK Ls h) (hr : 0 ≤ rain ∧ rain ≤ 1000) (hK : ∀ τ, FrW b σ τ → WC τ b (nxtD (lvsF s (nP s) 0 (wesF s rain (nP s) 0 W1))) → K none τ) : ∀ (n k : Nat) (w : WT) (τ : AS), n + k = nQ s → RO τ → TwC τ s → LsC τ Ls h → WC τ b w → WK s w → FrW b σ τ → flwF s (hLw Ls h) n k w = W1 → Go l D cA ad (d + 4) mX2_passDay 2 [.ref 48, .ref b, .int (iI rain), .int (iI k)] [] τ K := by
  have hP7 := hS.1
  have hQ9 := hS.2.1
  intro n
  induction n using Nat.strongRecOn with
  | _ n ih =>
  intro k w τ hn hR hT hL hW hw hfr hres
  refine go_iload_n dX2_passDay_2 rfl ?_
  refine go_aload_n dX2_passDay_3 rfl ?_
  refine go_getR fX2_21 dX2_passDay_4 rfl (hR _ _ _ rfl) ?_
  refine go_getI fX2_64 dX2_passDay_7 rfl ?_
  refine go_icmp_ge (tgt := 33) dX2_passDay_10 (by decide) (fun h10 => ?_) (fun h10 => ?_)
  · rw [hT.2.1, iI_le (by omega)] at h10
    refine go_iconst (v := iI 0) dX2_passDay_33 (by decide) ?_
    refine go_istore_n dX2_passDay_34 (Nat.le_of_ble_eq_true rfl) rfl ?_
    simp only [List.set]
    have hn0 : n = 0 := by omega
    subst hn0
    have e : w = W1 := hres
    subst e
    exact p35 hS hb hb65 hr (fun τ' fr hW' => hK τ' (hfr.tr fr) hW') (nP s) 0 w τ (by omega) hR hT hW hw FrW.rf rfl
  · rw [hT.2.1, iI_le (by omega)] at h10
    refine go_aload_n dX2_passDay_13 rfl ?_
    refine go_iload_n dX2_passDay_14 rfl ?_
    refine go_callV (as := [_]) wX2_67 dX2_passDay_15 hb.1 rfl rfl rfl (Nat.le_of_ble_eq_true rfl) (ct_X10_isOpen hb hW (pw512 hS hw) (by omega) (fun hbit => ?_) (fun hbit => ?_))
    · obtain ⟨m, rfl⟩ : ∃ m, n = m + 1 := ⟨n - 1, by omega⟩
      have hres2 : flwF s (hLw Ls h) m (k + 1) w = W1 := by rw [← hres]; show _ = flwF s (hLw Ls h) m (k + 1) (if bitb (opn w) k = true then _ else _); rw [if_neg (by rw [hbit]; decide)]
      refine go_if_eq (tgt := 27) dX2_passDay_18 (by decide) (fun h18 => ?_) (fun h18 => ?_)
      · refine go_iincI dX2_passDay_27 rfl (Nat.le_of_ble_eq_true rfl) rfl ?_
        refine go_goto (tgt := 2) dX2_passDay_30 (by decide) ?_
        simp only [List.set, iI_add]
        exact ih m (by omega) (k + 1) w τ (by omega) hR hT hL hW hw hfr hres2
      · exact absurd h18 (by decide)
    · obtain ⟨m, rfl⟩ : ∃ m, n = m + 1 := ⟨n - 1, by omega⟩
      have hres2 : flwF s (hLw Ls h) m (k + 1) (carryF s (hLw Ls h) w k) = W1 := by rw [← hres]; show _ = flwF s (hLw Ls h) m (k + 1) (if bitb (opn w) k = true then _ else _); rw [if_pos hbit]
      refine go_if_eq (tgt := 27) dX2_passDay_18 (by decide) (fun h18 => ?_) (fun h18 => ?_)
      · exact absurd h18 (by decide)
      · refine go_aload_n dX2_passDay_21 rfl ?_
        refine go_iload_n dX2_passDay_22 rfl ?_
        refine go_aload_n dX2_passDay_23 rfl ?_
        refine go_callV (as := [_, _]) wX2_71 dX2_passDay_24 rfl rfl rfl rfl (Nat.le_of_ble_eq_true rfl) (ct_X2_carry hR hT hS hb hW hw hb65 hLk hL (by omega) (fun τ' fr hW' => ?_))
        refine go_iincI dX2_passDay_27 rfl (Nat.le_of_ble_eq_true rfl) rfl ?_
        refine go_goto (tgt := 2) dX2_passDay_30 (by decide) ?_
        simp only [List.set, iI_add]
        exact ih m (by omega) (k + 1) _ τ' (by omega) (fr.RO hR) (fr.twc hb65 hS hT) (fr.lsc hb65 hLk hL) hW' (carryF_ok hS hw (by omega)) (hfr.tr fr) hres2
theorem ct_X2_passDay {l : Launch} {D : va_G} {cA ad : Nat → Nat} {d : Nat} {σ : AS} {K : Option Value → AS → Prop} {s : PS} {w : WT} {Ls : LwT} {h : Int} {b : Nat} {rain : Int} (hR : RO σ) (hT : TwC σ s) (hS : TwK s) (hb : WB b) (hW : WC σ b w) (hw : WK s w) (hb65 : 65 < b) (hLk : LsK Ls h) (hL : LsC σ Ls h) (hr : 0 ≤ rain ∧ rain ≤ 1000) (hK : ∀ τ, FrW b σ τ → WC τ b (dayF s (hLw Ls h) rain w) → K none τ) : Call l D cA ad (d + 4) mX2_passDay [.ref 48, .ref b, .int (iI rain)] σ K := by
  refine call_go (by decide) (Nat.le_of_ble_eq_true rfl) (show Go l D cA ad (d + 4) mX2_passDay 0 [.ref 48, .ref b, .int (iI rain), .null] [] σ K from ?_)
  refine go_iconst (v := iI 0) dX2_passDay_0 (by decide) ?_
  refine go_istore_n dX2_passDay_1 (Nat.le_of_ble_eq_true rfl) rfl ?_
  simp only [List.set]
  exact p2 hS hb hb65 hLk hr (fun τ fr hW2 => hK τ fr hW2) (nQ s) 0 w σ (by omega) hR hT hL hW hw FrW.rf rfl

