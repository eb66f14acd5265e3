theorem moveF_a {f : Nat → Int} {a b : Nat} {v : Int} : moveF f a b v a = f a - v := if_pos rfl
theorem moveF_b {f : Nat → Int} {a b : Nat} {v : Int} (h : a ≠ b) : moveF f a b v b = f b + v := by unfold moveF; rw [if_neg (fun q => h q.symm), if_pos rfl]
theorem moveF_n {f : Nat → Int} {a b i : Nat} {v : Int} (h1 : i ≠ a) (h2 : i ≠ b) : moveF f a b v i = f i := by unfold moveF; rw [if_neg h1, if_neg h2]
theorem swimF_bd {f : Nat → Int} {a b i : Nat} {m : Int} (hab : a ≠ b) (h : ∀ i, 0 ≤ f i ∧ f i ≤ m) : 0 ≤ swimF f a b m i ∧ swimF f a b m i ≤ m := by
  unfold swimF
  have h1 := h i
  split
  · by_cases c1 : i = a
    · subst c1; rw [moveF_a]; omega
    · by_cases c2 : i = b
      · subst c2; rw [moveF_b hab]; omega
      · rw [moveF_n c1 c2]; exact h1
  · exact h1
theorem swimF_n {f : Nat → Int} {a b i : Nat} {m : Int} (h1 : i ≠ a) (h2 : i ≠ b) : swimF f a b m i = f i := by
  unfold swimF
  split
  · exact moveF_n h1 h2
  · rfl
theorem carryF_ok {s : PS} {hv : Option (List CL)} {w : WT} {k : Nat} (hS : TwK s) (hw : WK s w) (hk : k < nQ s) : WK s (carryF s hv w k) := by
  unfold carryF
  by_cases c : flF s hv w k = 0
  · rw [if_pos c]; exact hw
  · rw [if_neg c]
    have hhl := hiE_ok (w := w) hS hk
    have hfb := flF_bd (hv := hv) hS hw hk
    refine ⟨fun i hi => ?_, fun i hi => ?_, hw.2.2.1, hw.2.2.2⟩
    · have h1 := hw.1 i hi
      have h2 := swimF_bd (i := i) (m := 99) hhl.2.2.1 (fun i => by have := wk7 hS hw i; exact ⟨this.2.2.1, this.2.2.2.1⟩)
      have h3 := swimF_bd (i := i) (m := 9) hhl.2.2.1 (fun i => by have := wk7 hS hw i; exact ⟨this.2.2.2.2.1, this.2.2.2.2.2⟩)
      refine ⟨?_, ?_, h2.1, h2.2, h3.1, h3.2⟩
      · show 0 ≤ moveF _ _ _ _ i
        by_cases c1 : i = hiE s w k
        · subst c1; rw [moveF_a]; omega
        · by_cases c2 : i = loE s w k
          · subst c2; rw [moveF_b hhl.2.2.1]; omega
          · rw [moveF_n c1 c2]; omega
      · show moveF _ _ _ _ i ≤ _
        by_cases c1 : i = hiE s w k
        · subst c1; rw [moveF_a]; omega
        · by_cases c2 : i = loE s w k
          · subst c2; rw [moveF_b hhl.2.2.1]; omega
          · rw [moveF_n c1 c2]; omega
    · have h1 := hw.2.1 i hi
      exact ⟨(moveF_n (by omega) (by omega)).trans h1.1, (swimF_n (by omega) (by omega)).trans h1.2.1, (swimF_n (by omega) (by omega)).trans h1.2.2⟩
theorem carryF_r {s : PS} {hv : Option (List CL)} {w : WT} {k : Nat} : (carryF s hv w k).2.2.2 = w.2.2.2 := by unfold carryF; split <;> rfl
theorem flwF_ok {s : PS} {hv : Option (List CL)} (hS : TwK s) : ∀ (n k : Nat) (w : WT), WK s w → n + k ≤ nQ s → WK s (flwF s hv n k w) ∧ (flwF s hv n k w).2.2.2 = w.2.2.2
  | 0, k, w, hw, _ => ⟨hw, rfl⟩
  | n + 1, k, w, hw, h => by
    unfold flwF
    split
    · have ih := flwF_ok (hv := hv) hS n (k + 1) (carryF s hv w k) (carryF_ok hS hw (by omega)) (by omega)
      exact ⟨ih.1, ih.2.trans carryF_r⟩
    · exact flwF_ok hS n (k + 1) w hw (by omega)
theorem setF_a {f : Nat → Int} {p : Nat} {v : Int} : setF f p v p = v := if_pos rfl
theorem setF_n {f : Nat → Int} {p i : Nat} {v : Int} (h : i ≠ p) : setF f p v i = f i := if_neg h
theorem weaF_ok {s : PS} {w : WT} {p : Nat} {rain : Int} (hS : TwK s) (hw : WK s w) (hp : p < nP s) (hr : 0 ≤ rain) : WK s (weaF s rain p w) := by
  have hd := hS.2.2.2.1 p hp
  unfold PdK at hd
  have hk := hS.2.2.1 1 (by decide)
  have h0 := hw.1 p hp
  refine ⟨fun i hi => ?_, fun i hi => ?_, hw.2.2.1, hw.2.2.2⟩
  · have h1 := hw.1 i hi
    show 0 ≤ setF _ _ _ i ∧ setF _ _ _ i ≤ _ ∧ _
    by_cases c : i = p
    · subst c
      rw [setF_a]
      have a1 := mn_or (wa w i + rain) (pd s i 1)
      have a2 := mx_or 0 (mn (wa w i + rain) (pd s i 1) - skv s 1 - pd s i 4)
      exact ⟨by omega, by omega, h1.2.2.1, h1.2.2.2.1, h1.2.2.2.2.1, h1.2.2.2.2.2⟩
    · rw [setF_n c]; exact h1
  · have h1 := hw.2.1 i hi
    exact ⟨(setF_n (by omega)).trans h1.1, h1.2⟩
theorem wesF_ok {s : PS} {rain : Int} (hS : TwK s) (hr : 0 ≤ rain) : ∀ (n k : Nat) (w : WT), WK s w → n + k ≤ nP s → WK s (wesF s rain n k w) ∧ opn (wesF s rain n k w) = opn w ∧ dy (wesF s rain n k w) = dy w
  | 0, k, w, hw, _ => ⟨hw, rfl, rfl⟩
  | n + 1, k, w, hw, h => by
    unfold wesF
    have ih := wesF_ok hS hr n (k + 1) (weaF s rain k w) (weaF_ok hS hw (by omega) hr) (by omega)
    exact ⟨ih.1, ih.2.1, ih.2.2⟩
theorem livF_ok {s : PS} {w : WT} {p : Nat} (hS : TwK s) (hw : WK s w) (hp : p < nP s) : WK s (livF s p w) := by
  have h0 := hw.1 p hp
  unfold livF
  by_cases cz : wa w p = 0
  · rw [if_pos cz]
    refine ⟨fun i hi => ?_, fun i hi => ?_, hw.2.2.1, hw.2.2.2⟩
    · have h1 := hw.1 i hi
      show 0 ≤ wa w i ∧ wa w i ≤ pd s i 1 ∧ 0 ≤ setF (ca w) p _ i ∧ setF (ca w) p _ i ≤ 99 ∧ 0 ≤ setF (pk w) p _ i ∧ setF (pk w) p _ i ≤ 9
      by_cases c : i = p
      · subst c; rw [setF_a, setF_a]; omega
      · rw [setF_n c, setF_n c]; exact h1
    · have h1 := hw.2.1 i hi
      exact ⟨h1.1, (setF_n (by omega)).trans h1.2.1, (setF_n (by omega)).trans h1.2.2⟩
  · rw [if_neg cz]
    refine ⟨fun i hi => ?_, fun i hi => ?_, hw.2.2.1, hw.2.2.2⟩
    · have h1 := hw.1 i hi
      show 0 ≤ wa w i ∧ wa w i ≤ pd s i 1 ∧ 0 ≤ setF (ca w) p _ i ∧ setF (ca w) p _ i ≤ 99 ∧ 0 ≤ setF (pk w) p _ i ∧ setF (pk w) p _ i ≤ 9
      by_cases c : i = p
      · subst c
        rw [setF_a, setF_a]
        have a1 := mx_or 0 (ca w i - 2 * pk w i)
        have a2 := mn_or 99 (mx 0 (ca w i - 2 * pk w i) + mx 0 (ca w i - 2 * pk w i) / 4)
        refine ⟨h1.1, h1.2.1, ?_, ?_, ?_, ?_⟩ <;> split <;> omega
      · rw [setF_n c, setF_n c]; exact h1
    · have h1 := hw.2.1 i hi
      exact ⟨h1.1, (setF_n (by omega)).trans h1.2.1, (setF_n (by omega)).trans h1.2.2⟩
theorem livF_r {s : PS} {w : WT} {p : Nat} : (livF s p w).2.2.2 = w.2.2.2 := by unfold livF; split <;> rfl
theorem lvsF_ok {s : PS} (hS : TwK s) : ∀ (n k : Nat) (w : WT), WK s w → n + k ≤ nP s → WK s (lvsF s n k w) ∧ (lvsF s n k w).2.2.2 = w.2.2.2
  | 0, k, w, hw, _ => ⟨hw, rfl⟩
  | n + 1, k, w, hw, h => by
    unfold lvsF
    have ih := lvsF_ok hS n (k + 1) (livF s k w) (livF_ok hS hw (by omega)) (by omega)
    exact ⟨ih.1, ih.2.trans livF_r⟩
theorem dayF_ok {s : PS} {hv : Option (List CL)} {rain : Int} {w : WT} (hS : TwK s) (hw : WK s w) (hr : 0 ≤ rain) (hd : dy w < 20000) : WK s (dayF s hv rain w) ∧ opn (dayF s hv rain w) = opn w ∧ dy (dayF s hv rain w) = dy w + 1 := by
  have h1 := flwF_ok (hv := hv) hS (nQ s) 0 w hw (by omega)
  have h2 := wesF_ok hS hr (nP s) 0 _ h1.1 (by omega)
  have h3 := lvsF_ok hS (nP s) 0 _ h2.1 (by omega)
  have e1 : opn (flwF s hv (nQ s) 0 w) = opn w := congrArg (fun z => z.1) h1.2
  have e2 : dy (flwF s hv (nQ s) 0 w) = dy w := congrArg (fun z => z.2.2) h1.2
  have e3 : opn (lvsF s (nP s) 0 (wesF s rain (nP s) 0 (flwF s hv (nQ s) 0 w))) = opn w := (congrArg (fun z => z.1) h3.2).trans (h2.2.1.trans e1)
  have e4 : dy (lvsF s (nP s) 0 (wesF s rain (nP s) 0 (flwF s hv (nQ s) 0 w))) = dy w := (congrArg (fun z => z.2.2) h3.2).trans (h2.2.2.trans e2)
  refine ⟨⟨h3.1.1, h3.1.2.1, h3.1.2.2.1, ?_⟩, e3, ?_⟩
  · show dy (lvsF s (nP s) 0 _) + 1 ≤ 20000
    omega
  · show dy (lvsF s (nP s) 0 _) + 1 = _
    omega
theorem pw512 {s : PS} {w : WT} (hS : TwK s) (hw : WK s w) : opn w < 512 := Nat.lt_of_lt_of_le hw.2.2.1 (pw_lt (nQ s) (by have := hS.2.1; omega))
theorem ct_X10_isOpen {l : Launch} {D : va_G} {cA ad : Nat → Nat} {d : Nat} {σ : AS} {K : Option Value → AS → Prop} {w : WT} {b k : Nat} (hb : WB b) (hW : WC σ b w) (hm : opn w < 512) (hk : k < 9) (hK1 : bitb (opn w) k = false → K (some (.int (iI 0))) σ) (hK2 : bitb (opn w) k = true → K (some (.int (iI 1))) σ) : Call l D cA ad d mX10_isOpen [.ref b, .int (iI k)] σ K := by
  refine call_go (by decide) (Nat.le_of_ble_eq_true rfl) (show Go l D cA ad d mX10_isOpen 0 [.ref b, .int (iI k)] [] σ K from ?_)
  refine go_aload_n dX10_isOpen_0 rfl ?_
  refine go_getI fX10_21 dX10_isOpen_1 hb.1 ?_
  refine go_iload_n dX10_isOpen_4 rfl ?_
  refine go_ishr dX10_isOpen_5 ?_
  refine go_iconst (v := iI 1) dX10_isOpen_6 (by decide) ?_
  refine go_iand dX10_isOpen_7 ?_
  refine go_if_eq (tgt := 15) dX10_isOpen_8 (by decide) (fun h8 => ?_) (fun h8 => ?_)
  · rw [hW.2.1, b_get _ hm _ hk, iI_eq0 (by omega)] at h8
    refine go_iconst (v := iI 0) dX10_isOpen_15 (by decide) ?_
    refine go_iret rfl rfl dX10_isOpen_16 ?_
    exact hK1 (by unfold bitb; rw [show opn w / 2 ^ k % 2 = 0 by omega]; rfl)
  · rw [hW.2.1, b_get _ hm _ hk, iI_eq0 (by omega)] at h8
    refine go_iconst (v := iI 1) dX10_isOpen_11 (by decide) ?_
    refine go_goto (tgt := 16) dX10_isOpen_12 (by decide) ?_
    refine go_iret rfl rfl dX10_isOpen_16 ?_
    exact hK2 (by unfold bitb; rw [show opn w / 2 ^ k % 2 = 1 by omega]; rfl)

theorem ct_X2_weather {l : Launch} {D : va_G} {cA ad : Nat → Nat} {d : Nat} {σ : AS} {K : Option Value → AS → Prop} {s : PS} {w : WT} {b p : Nat} {rain : Int} (hR : RO σ) (hT : TwC σ s) (hS : TwK s) (hb : WB b) (hW : WC σ b w) (hw : WK s w) (hb65 : 65 < b) (hp : p < nP s) (hr : 0 ≤ rain ∧ rain ≤ 1000) (hK : ∀ τ, FrW b σ τ → WC τ b (weaF s rain p w) → K none τ) : Call l D cA ad (d + 1) mX2_weather [.ref 48, .int (iI p), .ref b, .int (iI rain)] σ K := by
  have hP7 := hS.1
  have hpd := hS.2.2.2.1 p hp
  unfold PdK at hpd
  have hwp := hw.1 p hp
  have hsk := hS.2.2.1 1 (by decide)
  have hsk2 := hS.2.2.1 2 (by decide)
  refine call_go (by decide) (Nat.le_of_ble_eq_true rfl) (show Go l D cA ad (d + 1) mX2_weather 0 [.ref 48, .int (iI p), .ref b, .int (iI rain), .null, .null, .null] [] σ K from ?_)
  refine go_aload_n dX2_weather_0 rfl ?_
  refine go_getR fX2_21 dX2_weather_1 rfl (hR _ _ _ rfl) ?_
  refine go_getR fX2_36 dX2_weather_4 rfl (hR _ _ _ rfl) ?_
  refine go_iload_n dX2_weather_7 rfl ?_
  refine go_aald dX2_weather_8 rfl (by decide) (vp_iI (by omega)) (by rw [cl_n _ (by omega)]; exact hR _ _ _ (r25 _ (by omega)).2.2.1) ?_
  refine go_astore dX2_weather_9 (Nat.le_of_ble_eq_true rfl) rfl ?_
  refine go_aload_n dX2_weather_11 rfl ?_
  refine go_getR fX2_39 dX2_weather_12 hb.1 (hR _ _ _ hb.2.2.2.2.1) ?_
  refine go_iload_n dX2_weather_15 rfl ?_
  refine go_iald dX2_weather_16 hb.2.1 (vp_iI (by omega)) ?_
  rw [cl_n _ (by omega), (hW.1 p (by omega)).1]
  refine go_iload_n dX2_weather_17 rfl ?_
  refine go_iadd dX2_weather_18 ?_
  rw [iI_add]
  refine go_istore dX2_weather_19 (Nat.le_of_ble_eq_true rfl) rfl ?_
  refine go_iload dX2_weather_21 rfl ?_
  refine go_aload dX2_weather_23 rfl ?_
  refine go_iconst (v := iI 1) dX2_weather_25 (by decide) ?_
  refine go_iald dX2_weather_26 (r25 p (by omega)).2.2.2 (vp_iI (by decide)) ?_
  rw [show (iI 1).toNatClampNeg = 1 by decide, hT.2.2.2.1 p 1 hp (by decide)]
  refine go_min wX2_45 dX2_weather_27 (Nat.le_of_ble_eq_true rfl) ?_
  rw [iI_mn (by omega)]
  refine go_istore dX2_weather_30 (Nat.le_of_ble_eq_true rfl) rfl ?_
  refine go_aload_n dX2_weather_32 rfl ?_
  refine go_dup dX2_weather_33 rfl ?_
  refine go_getI fX2_94 dX2_weather_34 hb.1 ?_
  refine go_iload dX2_weather_37 rfl ?_
  refine go_iload dX2_weather_39 rfl ?_
  refine go_isub dX2_weather_41 ?_
  refine go_iadd dX2_weather_42 ?_
  rw [hW.2.2.1, iI_sub, iI_add]
  refine go_putI fX2_94 rfl dX2_weather_43 hb.1 rfl rfl ?_
  refine go_aload_n dX2_weather_46 rfl ?_
  refine go_getR fX2_39 dX2_weather_47 hb.1 (hR _ _ _ hb.2.2.2.2.1) ?_
  refine go_iload_n dX2_weather_50 rfl ?_
  refine go_iconst (v := iI 0) dX2_weather_51 (by decide) ?_
  refine go_iload dX2_weather_52 rfl ?_
  refine go_aload_n dX2_weather_54 rfl ?_
  refine go_getR fX2_21 dX2_weather_55 rfl (hR _ _ _ rfl) ?_
  refine go_getR fX2_97 dX2_weather_58 rfl (hR _ _ _ rfl) ?_
  refine go_iconst (v := iI 1) dX2_weather_61 (by decide) ?_
  refine go_iald dX2_weather_62 rfl (vp_iI (by decide)) ?_
  rw [show (iI 1).toNatClampNeg = 1 by decide, show ∀ r, (sI σ b r).1 4 = σ.1 4 from fun r => sI_ne _ _ _ _ (by omega), hT.2.2.1 1 (by decide)]
  refine go_isub dX2_weather_63 ?_
  rw [iI_sub]
  refine go_aload dX2_weather_64 rfl ?_
  refine go_iconst (v := iI 4) dX2_weather_66 (by decide) ?_
  refine go_iald dX2_weather_67 (r25 p (by omega)).2.2.2 (vp_iI (by decide)) ?_
  rw [show (iI 4).toNatClampNeg = 4 by decide, show ∀ r, (sI σ b r).1 (6 + p) = σ.1 (6 + p) from fun r => sI_ne _ _ _ _ (by omega), hT.2.2.2.1 p 4 hp (by decide)]
  refine go_isub dX2_weather_68 ?_
  rw [iI_sub]
  refine go_max wX2_61 dX2_weather_69 (Nat.le_of_ble_eq_true rfl) ?_
  rw [iI_mx (by have := mn_or (wa w p + rain) (pd s p 1); omega)]
  refine go_iast dX2_weather_72 hb.2.1 (vp_iI (by omega)) ?_
  refine go_vret rfl dX2_weather_73 ?_
  rw [cl_n _ (by omega), sI_ne _ _ _ _ (by omega)]
  refine hK _ ((FrW.rf.sI (by omega) (by omega)).sI (by omega) (by omega)) ⟨fun i hi => ⟨?_, ?_, ?_⟩, ?_, ?_, ?_⟩
  · rw [sI_same]; exact set_ok (fun i hi => (hW.1 i hi).1) hi
  · rw [sI_ne _ _ _ _ (by omega), sI_ne _ _ _ _ (by omega)]; exact (hW.1 i hi).2.1
  · rw [sI_ne _ _ _ _ (by omega), sI_ne _ _ _ _ (by omega)]; exact (hW.1 i hi).2.2
  · rw [sI_ne _ _ _ _ (by omega), sI_same, upd_ne _ _ _ _ (by decide)]; exact hW.2.1
  · rw [sI_ne _ _ _ _ (by omega), sI_same, upd_same]; rfl
  · rw [sI_ne _ _ _ _ (by omega), sI_same, upd_ne _ _ _ _ (by decide)]; exact hW.2.2.2

theorem WC_23 {σ : AS} {b : Nat} {w : WT} {r2 r3 : Nat → Int32} {g h : Nat → Int} (hW : WC σ b w) (h2 : ∀ i, i < 7 → r2 i = iI (g i)) (h3 : ∀ i, i < 7 → r3 i = iI (h i)) : WC (sI (sI σ (b + 2) r2) (b + 3) r3) b (wa w, g, h, w.2.2.2) := by
  have := WC_sI (r1 := σ.1 (b + 1)) hW (fun i hi => (hW.1 i hi).1) h2 h3
  rw [sI_self] at this
  exact this
theorem l55 {l : Launch} {D : va_G} {cA ad : Nat → Nat} {d : Nat} {σ : AS} {K : Option Value → AS → Prop} {s : PS} {w : WT} {b p : Nat} {r3 : Nat → Int32} {g : Nat → Int} (hR : RO σ) (hT : TwC σ s) (hS : TwK s) (hb : WB b) (hW : WC σ b w) (hw : WK s w) (hb65 : 65 < b) (hp : p < nP s) (h21 : wa w p ≠ 0) (hg : setF (pk w) p (if ca w p < pk w p then pk w p - 1 else pk w p) = g) (hr3 : ∀ i, i < 7 → r3 i = iI (g i)) (hK : ∀ τ, FrW b σ τ → WC τ b (livF s p w) → K none τ) : Go l D cA ad (d + 1) mX2_live 55 [.ref 48, .int (iI p), .ref b, .int (iI (ca w p)), .int (iI (pk w p))] [] (sI σ (b + 3) r3) K := by
  have hP7 := hS.1
  have hpd := hS.2.2.2.1 p hp
  unfold PdK at hpd
  have hwp := hw.1 p hp
  have hsk := hS.2.2.1 1 (by decide)
  have hsk2 := hS.2.2.1 2 (by decide)
  refine go_iconst (v := iI 0) dX2_live_55 (by decide) ?_
  refine go_iload_n dX2_live_56 rfl ?_
  refine go_iconst (v := iI 2) dX2_live_57 (by decide) ?_
  refine go_iload dX2_live_58 rfl ?_
  refine go_imul dX2_live_60 ?_
  rw [iI_mul]
  refine go_isub dX2_live_61 ?_
  rw [iI_sub]
  refine go_max wX2_61 dX2_live_62 (Nat.le_of_ble_eq_true rfl) ?_
  rw [iI_mx (by omega)]
  refine go_istore_n dX2_live_65 (Nat.le_of_ble_eq_true rfl) rfl ?_
  refine go_aload_n dX2_live_66 rfl ?_
  refine go_getR fX2_39 dX2_live_67 hb.1 (hR _ _ _ hb.2.2.2.2.1) ?_
  refine go_iload_n dX2_live_70 rfl ?_
  refine go_iald dX2_live_71 hb.2.1 (vp_iI (by omega)) ?_
  rw [cl_n _ (by omega), sI_ne _ _ _ _ (by omega), (hW.1 p (by omega)).1]
  refine go_aload_n dX2_live_72 rfl ?_
  refine go_getR fX2_21 dX2_live_73 rfl (hR _ _ _ rfl) ?_
  refine go_getR fX2_97 dX2_live_76 rfl (hR _ _ _ rfl) ?_
  refine go_iconst (v := iI 2) dX2_live_79 (by decide) ?_
  refine go_iald dX2_live_80 rfl (vp_iI (by decide)) ?_
  rw [show (iI 2).toNatClampNeg = 2 by decide, sI_ne _ _ _ _ (by omega), hT.2.2.1 2 (by decide)]
  refine go_icmp_lt (tgt := 95) dX2_live_81 (by decide) (fun h81 => ?_) (fun h81 => ?_)
  · rw [iI_lt (by omega)] at h81
    refine go_aload_n dX2_live_95 rfl ?_
    refine go_getR fX2_88 dX2_live_96 hb.1 (hR _ _ _ hb.2.2.2.2.2.1) ?_
    refine go_iload_n dX2_live_99 rfl ?_
    refine go_iload_n dX2_live_100 rfl ?_
    refine go_iast dX2_live_101 hb.2.2.1 (vp_iI (by omega)) ?_
    refine go_vret rfl dX2_live_102 ?_
    rw [cl_n _ (by omega), sI_ne _ _ _ _ (by omega), sI_comm _ (b + 3) (b + 2) _ _ (by omega)]
    have e : livF s p w = (wa w, setF (ca w) p (mx 0 (ca w p - 2 * pk w p)), g, w.2.2.2) := by
      unfold livF
      rw [if_neg h21, if_neg (by omega), hg]
    rw [e] at hK
    exact hK _ ((FrW.rf.sI (by omega) (by omega)).sI (by omega) (by omega)) (WC_23 hW (fun i hi => set_ok (fun i hi => (hW.1 i hi).2.1) hi) hr3)
  · rw [iI_lt (by omega)] at h81
    refine go_bipush (v := iI 99) dX2_live_84 (by decide) ?_
    refine go_iload_n dX2_live_86 rfl ?_
    refine go_iload_n dX2_live_87 rfl ?_
    refine go_iconst (v := iI 4) dX2_live_88 (by decide) ?_
    refine go_idiv dX2_live_89 (by decide) ?_
    rw [iI_div (by have := mx_or 0 (ca w p - 2 * pk w p); omega) (by decide)]
    refine go_iadd dX2_live_90 ?_
    rw [iI_add]
    refine go_min wX2_45 dX2_live_91 (Nat.le_of_ble_eq_true rfl) ?_
    rw [iI_mn (by have := mx_or 0 (ca w p - 2 * pk w p); omega)]
    refine go_istore_n dX2_live_94 (Nat.le_of_ble_eq_true rfl) rfl ?_
    refine go_aload_n dX2_live_95 rfl ?_
    refine go_getR fX2_88 dX2_live_96 hb.1 (hR _ _ _ hb.2.2.2.2.2.1) ?_
    refine go_iload_n dX2_live_99 rfl ?_
    refine go_iload_n dX2_live_100 rfl ?_
    refine go_iast dX2_live_101 hb.2.2.1 (vp_iI (by omega)) ?_
    refine go_vret rfl dX2_live_102 ?_
    rw [cl_n _ (by omega), sI_ne _ _ _ _ (by omega), sI_comm _ (b + 3) (b + 2) _ _ (by omega)]
    have e : livF s p w = (wa w, setF (ca w) p (mn 99 (mx 0 (ca w p - 2 * pk w p) + mx 0 (ca w p - 2 * pk w p) / 4)), g, w.2.2.2) := by
      unfold livF
      rw [if_neg h21, if_pos (by omega), hg]
    rw [e] at hK
    exact hK _ ((FrW.rf.sI (by omega) (by omega)).sI (by omega) (by omega)) (WC_23 hW (fun i hi => set_ok (fun i hi => (hW.1 i hi).2.1) hi) hr3)
theorem ct_X2_live {l : Launch} {D : va_G} {cA ad : Nat → Nat} {d : Nat} {σ : AS} {K : Option Value → AS → Prop} {s : PS} {w : WT} {b p : Nat} (hR : RO σ) (hT : TwC σ s) (hS : TwK s) (hb : WB b) (hW : WC σ b w) (hw : WK s w) (hb65 : 65 < b) (hp : p < nP s) (hK : ∀ τ, FrW b σ τ → WC τ b (livF s p w) → K none τ) : Call l D cA ad (d + 1) mX2_live [.ref 48, .int (iI p), .ref b] σ K := by
  have hP7 := hS.1
  have hpd := hS.2.2.2.1 p hp
  unfold PdK at hpd
  have hwp := hw.1 p hp
  have hsk := hS.2.2.1 1 (by decide)
  have hsk2 := hS.2.2.1 2 (by decide)
  refine call_go (by decide) (Nat.le_of_ble_eq_true rfl) (show Go l D cA ad (d + 1) mX2_live 0 [.ref 48, .int (iI p), .ref b, .null, .null] [] σ K from ?_)
  refine go_aload_n dX2_live_0 rfl ?_
  refine go_getR fX2_88 dX2_live_1 hb.1 (hR _ _ _ hb.2.2.2.2.2.1) ?_
  refine go_iload_n dX2_live_4 rfl ?_
  refine go_iald dX2_live_5 hb.2.2.1 (vp_iI (by omega)) ?_
  rw [cl_n _ (by omega), (hW.1 p (by omega)).2.1]
  refine go_istore_n dX2_live_6 (Nat.le_of_ble_eq_true rfl) rfl ?_
  refine go_aload_n dX2_live_7 rfl ?_
  refine go_getR fX2_91 dX2_live_8 hb.1 (hR _ _ _ hb.2.2.2.2.2.2) ?_
  refine go_iload_n dX2_live_11 rfl ?_
  refine go_iald dX2_live_12 hb.2.2.2.1 (vp_iI (by omega)) ?_
  rw [cl_n _ (by omega), (hW.1 p (by omega)).2.2]
  refine go_istore dX2_live_13 (Nat.le_of_ble_eq_true rfl) rfl ?_
  refine go_aload_n dX2_live_15 rfl ?_
  refine go_getR fX2_39 dX2_live_16 hb.1 (hR _ _ _ hb.2.2.2.2.1) ?_
  refine go_iload_n dX2_live_19 rfl ?_
  refine go_iald dX2_live_20 hb.2.1 (vp_iI (by omega)) ?_
  rw [cl_n _ (by omega), (hW.1 p (by omega)).1]
  refine go_if_ne (tgt := 39) dX2_live_21 (by decide) (fun h21 => ?_) (fun h21 => ?_)
  · rw [iI_eq0 (by omega)] at h21
    refine go_iload_n dX2_live_39 rfl ?_
    refine go_iload dX2_live_40 rfl ?_
    refine go_icmp_ge (tgt := 55) dX2_live_42 (by decide) (fun h42 => ?_) (fun h42 => ?_)
    · rw [iI_le (by omega)] at h42
      simp only [List.set]
      rw [← sI_self σ (b + 3)]
      exact l55 hR hT hS hb hW hw hb65 hp h21 rfl (fun i hi => by
        rw [if_neg (by omega)]
        have := set_ok (p := p) (v := pk w p) (fun i hi => (hW.1 i hi).2.2) hi
        rw [← (hW.1 p (by omega)).2.2, upd_self] at this
        exact this) hK
    · rw [iI_le (by omega)] at h42
      refine go_aload_n dX2_live_45 rfl ?_
      refine go_getR fX2_91 dX2_live_46 hb.1 (hR _ _ _ hb.2.2.2.2.2.2) ?_
      refine go_iload_n dX2_live_49 rfl ?_
      refine go_dup2 dX2_live_50 rfl rfl ?_
      refine go_iald dX2_live_51 hb.2.2.2.1 (vp_iI (by omega)) ?_
      rw [cl_n _ (by omega), (hW.1 p (by omega)).2.2]
      refine go_iconst (v := iI 1) dX2_live_52 (by decide) ?_
      refine go_isub dX2_live_53 ?_
      rw [iI_sub]
      refine go_iast dX2_live_54 hb.2.2.2.1 (vp_iI (by omega)) ?_
      simp only [List.set]
      rw [cl_n _ (by omega)]
      exact l55 hR hT hS hb hW hw hb65 hp h21 rfl (fun i hi => by
        rw [if_pos (by omega)]
        exact set_ok (fun i hi => (hW.1 i hi).2.2) hi) hK
  · rw [iI_eq0 (by omega)] at h21
    refine go_aload_n dX2_live_24 rfl ?_
    refine go_getR fX2_88 dX2_live_25 hb.1 (hR _ _ _ hb.2.2.2.2.2.1) ?_
    refine go_iload_n dX2_live_28 rfl ?_
    refine go_iconst (v := iI 0) dX2_live_29 (by decide) ?_
    refine go_iast dX2_live_30 hb.2.2.1 (vp_iI (by omega)) ?_
    refine go_aload_n dX2_live_31 rfl ?_
    refine go_getR fX2_91 dX2_live_32 hb.1 (hR _ _ _ hb.2.2.2.2.2.2) ?_
    refine go_iload_n dX2_live_35 rfl ?_
    refine go_iconst (v := iI 0) dX2_live_36 (by decide) ?_
    refine go_iast dX2_live_37 hb.2.2.2.1 (vp_iI (by omega)) ?_
    refine go_vret rfl dX2_live_38 ?_
    have e : livF s p w = (wa w, setF (ca w) p 0, setF (pk w) p 0, w.2.2.2) := by unfold livF; rw [if_pos h21]
    rw [e] at hK
    rw [cl_n _ (by omega), sI_ne _ _ _ _ (by omega)]
    refine hK _ ((FrW.rf.sI (by omega) (by omega)).sI (by omega) (by omega)) (WC_23 hW (fun i hi => set_ok (fun i hi => (hW.1 i hi).2.1) hi) (fun i hi => set_ok (fun i hi => (hW.1 i hi).2.2) hi))

