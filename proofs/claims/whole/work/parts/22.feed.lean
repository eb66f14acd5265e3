def w5 (a b c e f : Int32) : List Nat := wb a ++ wb b ++ wb c ++ wb e ++ wb f
theorem w5_len (a b c e f : Int32) : ((w5 a b c e f).length : Int) = nbw a + nbw b + nbw c + nbw e + nbw f := by
  unfold w5
  simp only [List.length_append, Int.natCast_add, wb_len]
theorem wb_mem {w : Int32} {b : Nat} (h : b ∈ wb w) : 1 ≤ b ∧ b ≤ 255 := by
  have one : ∀ s, b ∈ eb w s → 1 ≤ b ∧ b ≤ 255 := by
    intro s h
    unfold eb at h
    split at h
    · cases h
    · have := bw_lt w s
      rcases List.mem_cons.mp h with h | h
      · omega
      · cases h
  unfold wb at h
  rcases List.mem_append.mp h with h | h
  · rcases List.mem_append.mp h with h | h
    · rcases List.mem_append.mp h with h | h
      · exact one _ h
      · exact one _ h
    · exact one _ h
  · exact one _ h
theorem w5_TOK {t : List Nat} {a b c e f : Int32} (h : TOK t) (hl : t.length + (w5 a b c e f).length ≤ 240) : TOK (t ++ w5 a b c e f) := by
  refine ⟨by rw [List.length_append]; exact hl, fun x hx => ?_⟩
  rcases List.mem_append.mp hx with hx | hx
  · exact h.2 x hx
  · unfold w5 at hx
    rcases List.mem_append.mp hx with hx | hx
    · rcases List.mem_append.mp hx with hx | hx
      · rcases List.mem_append.mp hx with hx | hx
        · rcases List.mem_append.mp hx with hx | hx <;> exact wb_mem hx
        · exact wb_mem hx
      · exact wb_mem hx
    · exact wb_mem hx
theorem ct_X11_feed {l : Launch} {D : va_G} {cA ad : Nat → Nat} {d : Nat} {σ : AS} {K : Option Value → AS → Prop} {a b c e f : Int32} {t : List Nat} (hR : RO σ) (ht : t.length ≤ 240) (hT : TC σ t) (hK1 : ¬ t.length + (w5 a b c e f).length ≤ 240 → K (some (.int (iI (-1)))) σ) (hK2 : t.length + (w5 a b c e f).length ≤ 240 → ∀ r q, TC (tset σ r q) (t ++ w5 a b c e f) → K (some (.int (iI (t.length + (w5 a b c e f).length : Nat)))) (tset σ r q)) : Call l D cA ad (d + 1) mX11_feed [.ref 0, .int a, .int b, .int c, .int e, .int f] σ K := by
  refine call_go (by decide) (Nat.le_of_ble_eq_true rfl) (show Go l D cA ad (d + 1) mX11_feed 0 [.ref 0, .int a, .int b, .int c, .int e, .int f, .null] [] σ K from ?_)
  refine go_iload_n dX11_feed_0 rfl ?_
  refine go_callS (as := [_]) wX11_102 dX11_feed_1 rfl rfl (Nat.le_of_ble_eq_true rfl) (ct_X8_filledBytes ?_)
  refine go_iload_n dX11_feed_4 rfl ?_
  refine go_callS (as := [_]) wX11_102 dX11_feed_5 rfl rfl (Nat.le_of_ble_eq_true rfl) (ct_X8_filledBytes ?_)
  refine go_iadd dX11_feed_8 ?_
  refine go_iload_n dX11_feed_9 rfl ?_
  refine go_callS (as := [_]) wX11_102 dX11_feed_10 rfl rfl (Nat.le_of_ble_eq_true rfl) (ct_X8_filledBytes ?_)
  refine go_iadd dX11_feed_13 ?_
  refine go_iload dX11_feed_14 rfl ?_
  refine go_callS (as := [_]) wX11_102 dX11_feed_16 rfl rfl (Nat.le_of_ble_eq_true rfl) (ct_X8_filledBytes ?_)
  refine go_iadd dX11_feed_19 ?_
  refine go_iload dX11_feed_20 rfl ?_
  refine go_callS (as := [_]) wX11_102 dX11_feed_22 rfl rfl (Nat.le_of_ble_eq_true rfl) (ct_X8_filledBytes ?_)
  refine go_iadd dX11_feed_25 ?_
  refine go_istore dX11_feed_26 (Nat.le_of_ble_eq_true rfl) rfl ?_
  refine go_aload_n dX11_feed_28 rfl ?_
  refine go_getR fX11_10 dX11_feed_29 rfl (hR _ _ _ rfl) ?_
  refine go_getI fX11_106 dX11_feed_32 rfl ?_
  refine go_iload dX11_feed_35 rfl ?_
  refine go_iadd dX11_feed_37 ?_
  refine go_sipush (v := iI 240) dX11_feed_38 (by decide) ?_
  refine go_icmp_le (tgt := 46) dX11_feed_41 (by decide) (fun h41 => ?_) (fun h41 => ?_)
  · simp only [hT.1, iI_add] at h41
    have h1 := w5_len a b c e f
    have n1 := nbw_le a
    have n2 := nbw_le b
    have n3 := nbw_le c
    have n4 := nbw_le e
    have n5 := nbw_le f
    rw [iI_le (by omega)] at h41
    have hN : t.length + (w5 a b c e f).length ≤ 240 := by omega
    have hl := hN
    unfold w5 at hl
    simp only [List.length_append] at hl
    refine go_aload_n dX11_feed_46 rfl ?_
    refine go_getR fX11_10 dX11_feed_47 rfl (hR _ _ _ rfl) ?_
    refine go_iload_n dX11_feed_50 rfl ?_
    refine go_callV (as := [_]) wX11_109 dX11_feed_51 rfl rfl rfl rfl (Nat.le_of_ble_eq_true rfl) (ct_X8_put hR hT (by first | omega | (simp only [List.length_append]; omega)) (fun r1 q1 g1 => ?_))
    refine go_aload_n dX11_feed_54 rfl ?_
    refine go_getR fX11_10 dX11_feed_55 rfl (hR _ _ _ rfl) ?_
    refine go_iload_n dX11_feed_58 rfl ?_
    refine go_callV (as := [_]) wX11_109 dX11_feed_59 rfl rfl rfl rfl (Nat.le_of_ble_eq_true rfl) (ct_X8_put hR g1 (by first | omega | (simp only [List.length_append]; omega)) (fun r2 q2 g2 => ?_))
    rw [tset_tset] at g2 ⊢
    refine go_aload_n dX11_feed_62 rfl ?_
    refine go_getR fX11_10 dX11_feed_63 rfl (hR _ _ _ rfl) ?_
    refine go_iload_n dX11_feed_66 rfl ?_
    refine go_callV (as := [_]) wX11_109 dX11_feed_67 rfl rfl rfl rfl (Nat.le_of_ble_eq_true rfl) (ct_X8_put hR g2 (by first | omega | (simp only [List.length_append]; omega)) (fun r3 q3 g3 => ?_))
    rw [tset_tset] at g3 ⊢
    refine go_aload_n dX11_feed_70 rfl ?_
    refine go_getR fX11_10 dX11_feed_71 rfl (hR _ _ _ rfl) ?_
    refine go_iload dX11_feed_74 rfl ?_
    refine go_callV (as := [_]) wX11_109 dX11_feed_76 rfl rfl rfl rfl (Nat.le_of_ble_eq_true rfl) (ct_X8_put hR g3 (by first | omega | (simp only [List.length_append]; omega)) (fun r4 q4 g4 => ?_))
    rw [tset_tset] at g4 ⊢
    refine go_aload_n dX11_feed_79 rfl ?_
    refine go_getR fX11_10 dX11_feed_80 rfl (hR _ _ _ rfl) ?_
    refine go_iload dX11_feed_83 rfl ?_
    refine go_callV (as := [_]) wX11_109 dX11_feed_85 rfl rfl rfl rfl (Nat.le_of_ble_eq_true rfl) (ct_X8_put hR g4 (by first | omega | (simp only [List.length_append]; omega)) (fun r5 q5 g5 => ?_))
    rw [tset_tset] at g5 ⊢
    refine go_aload_n dX11_feed_88 rfl ?_
    refine go_getR fX11_10 dX11_feed_89 rfl (hR _ _ _ rfl) ?_
    refine go_getI fX11_106 dX11_feed_92 rfl ?_
    refine go_iret rfl rfl dX11_feed_95 ?_
    rw [g5.1]
    have e5 : t ++ wb a ++ wb b ++ wb c ++ wb e ++ wb f = t ++ w5 a b c e f := by unfold w5; simp only [List.append_assoc]
    rw [e5] at g5 ⊢
    rw [List.length_append]
    exact hK2 hN _ _ g5
  · refine go_iconst (v := iI (-1)) dX11_feed_44 (by decide) ?_
    refine go_iret rfl rfl dX11_feed_45 ?_
    simp only [hT.1, iI_add] at h41
    have h1 := w5_len a b c e f
    have n1 := nbw_le a
    have n2 := nbw_le b
    have n3 := nbw_le c
    have n4 := nbw_le e
    have n5 := nbw_le f
    rw [iI_le (by omega)] at h41
    exact hK1 (by omega)

theorem ct_X12_feed {l : Launch} {D : va_G} {cA ad : Nat → Nat} {d : Nat} {σ : AS} {K : Option Value → AS → Prop} {a b c e f : Int32} {t : List Nat} (hR : RO σ) (ht : t.length ≤ 240) (hT : TM σ t) (hK1 : ¬ t.length + (w5 a b c e f).length ≤ 240 → K (some (.int (iI (-1)))) (sI σ 111 (upd (σ.1 111) 0 (iI 0)))) (hK2 : t.length + (w5 a b c e f).length ≤ 240 → ∀ r q, TM (uset (sI σ 111 (upd (σ.1 111) 0 (iI 0))) r q) (t ++ w5 a b c e f) → K (some (.int (iI (t.length + (w5 a b c e f).length : Nat)))) (uset (sI σ 111 (upd (σ.1 111) 0 (iI 0))) r q)) : Call l D cA ad (d + 1) mX12_feed [.ref 111, .int a, .int b, .int c, .int e, .int f] σ K := by
  refine call_go (by decide) (Nat.le_of_ble_eq_true rfl) (show Go l D cA ad (d + 1) mX12_feed 0 [.ref 111, .int a, .int b, .int c, .int e, .int f] [] σ K from ?_)
  refine go_aload_n dX12_feed_0 rfl ?_
  refine go_iconst (v := iI 0) dX12_feed_1 (by decide) ?_
  refine go_putI fX12_96 rfl dX12_feed_2 rfl rfl rfl ?_
  generalize hσ : sI σ 111 (upd (σ.1 111) 0 (iI 0)) = σ0 at hK1 hK2 ⊢
  have hT : TM σ0 t := by subst hσ; exact hT
  have hR : RO σ0 := by subst hσ; exact hR
  refine go_aload_n dX12_feed_5 rfl ?_
  refine go_getI fX12_109 dX12_feed_6 rfl ?_
  refine go_iload_n dX12_feed_9 rfl ?_
  refine go_callS (as := [_]) wX12_111 dX12_feed_10 rfl rfl (Nat.le_of_ble_eq_true rfl) (ct_X12_bytesIn ?_)
  refine go_iadd dX12_feed_13 ?_
  refine go_iload_n dX12_feed_14 rfl ?_
  refine go_callS (as := [_]) wX12_111 dX12_feed_15 rfl rfl (Nat.le_of_ble_eq_true rfl) (ct_X12_bytesIn ?_)
  refine go_iadd dX12_feed_18 ?_
  refine go_iload_n dX12_feed_19 rfl ?_
  refine go_callS (as := [_]) wX12_111 dX12_feed_20 rfl rfl (Nat.le_of_ble_eq_true rfl) (ct_X12_bytesIn ?_)
  refine go_iadd dX12_feed_23 ?_
  refine go_iload dX12_feed_24 rfl ?_
  refine go_callS (as := [_]) wX12_111 dX12_feed_26 rfl rfl (Nat.le_of_ble_eq_true rfl) (ct_X12_bytesIn ?_)
  refine go_iadd dX12_feed_29 ?_
  refine go_iload dX12_feed_30 rfl ?_
  refine go_callS (as := [_]) wX12_111 dX12_feed_32 rfl rfl (Nat.le_of_ble_eq_true rfl) (ct_X12_bytesIn ?_)
  refine go_iadd dX12_feed_35 ?_
  refine go_sipush (v := iI 240) dX12_feed_36 (by decide) ?_
  refine go_icmp_le (tgt := 44) dX12_feed_39 (by decide) (fun h39 => ?_) (fun h39 => ?_)
  · simp only [hT.1, iI_add] at h39
    have h1 := w5_len a b c e f
    have n1 := nbw_le a
    have n2 := nbw_le b
    have n3 := nbw_le c
    have n4 := nbw_le e
    have n5 := nbw_le f
    rw [iI_le (by omega)] at h39
    have hN : t.length + (w5 a b c e f).length ≤ 240 := by omega
    have hl := hN
    unfold w5 at hl
    simp only [List.length_append] at hl
    refine go_aload_n dX12_feed_44 rfl ?_
    refine go_iload_n dX12_feed_45 rfl ?_
    refine go_callV (as := [_]) wX12_115 dX12_feed_46 rfl rfl rfl rfl (Nat.le_of_ble_eq_true rfl) (ct_X12_put hR hT (by first | omega | (simp only [List.length_append]; omega)) (fun r1 q1 g1 => ?_))
    refine go_aload_n dX12_feed_49 rfl ?_
    refine go_iload_n dX12_feed_50 rfl ?_
    refine go_callV (as := [_]) wX12_115 dX12_feed_51 rfl rfl rfl rfl (Nat.le_of_ble_eq_true rfl) (ct_X12_put hR g1 (by first | omega | (simp only [List.length_append]; omega)) (fun r2 q2 g2 => ?_))
    rw [uset_uset] at g2 ⊢
    refine go_aload_n dX12_feed_54 rfl ?_
    refine go_iload_n dX12_feed_55 rfl ?_
    refine go_callV (as := [_]) wX12_115 dX12_feed_56 rfl rfl rfl rfl (Nat.le_of_ble_eq_true rfl) (ct_X12_put hR g2 (by first | omega | (simp only [List.length_append]; omega)) (fun r3 q3 g3 => ?_))
    rw [uset_uset] at g3 ⊢
    refine go_aload_n dX12_feed_59 rfl ?_
    refine go_iload dX12_feed_60 rfl ?_
    refine go_callV (as := [_]) wX12_115 dX12_feed_62 rfl rfl rfl rfl (Nat.le_of_ble_eq_true rfl) (ct_X12_put hR g3 (by first | omega | (simp only [List.length_append]; omega)) (fun r4 q4 g4 => ?_))
    rw [uset_uset] at g4 ⊢
    refine go_aload_n dX12_feed_65 rfl ?_
    refine go_iload dX12_feed_66 rfl ?_
    refine go_callV (as := [_]) wX12_115 dX12_feed_68 rfl rfl rfl rfl (Nat.le_of_ble_eq_true rfl) (ct_X12_put hR g4 (by first | omega | (simp only [List.length_append]; omega)) (fun r5 q5 g5 => ?_))
    rw [uset_uset] at g5 ⊢
    refine go_aload_n dX12_feed_71 rfl ?_
    refine go_getI fX12_109 dX12_feed_72 rfl ?_
    refine go_iret rfl rfl dX12_feed_75 ?_
    rw [g5.1]
    have e5 : t ++ wb a ++ wb b ++ wb c ++ wb e ++ wb f = t ++ w5 a b c e f := by unfold w5; simp only [List.append_assoc]
    rw [e5] at g5 ⊢
    rw [List.length_append]
    exact hK2 hN _ _ g5
  · refine go_iconst (v := iI (-1)) dX12_feed_42 (by decide) ?_
    refine go_iret rfl rfl dX12_feed_43 ?_
    simp only [hT.1, iI_add] at h39
    have h1 := w5_len a b c e f
    have n1 := nbw_le a
    have n2 := nbw_le b
    have n3 := nbw_le c
    have n4 := nbw_le e
    have n5 := nbw_le f
    rw [iI_le (by omega)] at h39
    exact hK1 (by omega)

theorem ct_X11_end {l : Launch} {D : va_G} {cA ad : Nat → Nat} {d : Nat} {σ : AS} {K : Option Value → AS → Prop} {n : Int32} {t : List Nat} (hR : RO σ) (hT : TC σ t) (hK1 : ¬ (0 ≤ n ∧ n ≤ iI t.length) → K (some (.int (iI 0))) σ) (hK2 : 0 ≤ n ∧ n ≤ iI t.length → K (some (.int (iI 1))) (tset σ (σ.1 2) n)) : Call l D cA ad d mX11_end [.ref 0, .int n] σ K := by
  refine call_go (by decide) (Nat.le_of_ble_eq_true rfl) (show Go l D cA ad d mX11_end 0 [.ref 0, .int n] [] σ K from ?_)
  refine go_iload_n dX11_end_0 rfl ?_
  refine go_if_lt (tgt := 15) dX11_end_1 (by decide) (fun h1 => ?_) (fun h1 => ?_)
  · refine go_iconst (v := iI 0) dX11_end_15 (by decide) ?_
    refine go_iret rfl rfl dX11_end_16 ?_
    refine hK1 (fun q => ?_)
    first | exact absurd q.1 (Int32.not_le.mpr h1) | (rw [hT.1] at h12; exact h12 q.2)
  · refine go_iload_n dX11_end_4 rfl ?_
    refine go_aload_n dX11_end_5 rfl ?_
    refine go_getR fX11_10 dX11_end_6 rfl (hR _ _ _ rfl) ?_
    refine go_getI fX11_106 dX11_end_9 rfl ?_
    refine go_icmp_le (tgt := 17) dX11_end_12 (by decide) (fun h12 => ?_) (fun h12 => ?_)
    · refine go_aload_n dX11_end_17 rfl ?_
      refine go_getR fX11_10 dX11_end_18 rfl (hR _ _ _ rfl) ?_
      refine go_iload_n dX11_end_21 rfl ?_
      refine go_putI fX11_106 rfl dX11_end_22 rfl rfl rfl ?_
      refine go_iconst (v := iI 1) dX11_end_25 (by decide) ?_
      refine go_iret rfl rfl dX11_end_26 ?_
      rw [hT.1] at h12
      have := hK2 ⟨Int32.not_lt.mp h1, h12⟩
      unfold tset at this
      rw [sI_self] at this
      exact this
    · refine go_iconst (v := iI 0) dX11_end_15 (by decide) ?_
      refine go_iret rfl rfl dX11_end_16 ?_
      refine hK1 (fun q => ?_)
      first | exact absurd q.1 (Int32.not_le.mpr h1) | (rw [hT.1] at h12; exact h12 q.2)

theorem ct_X12_end {l : Launch} {D : va_G} {cA ad : Nat → Nat} {d : Nat} {σ : AS} {K : Option Value → AS → Prop} {n : Int32} {t : List Nat} (hR : RO σ) (hT : TM σ t) (hK1 : ¬ (0 ≤ n ∧ n ≤ iI t.length) → K (some (.int (iI 0))) (sI σ 111 (upd (σ.1 111) 0 (iI 0)))) (hK2 : 0 ≤ n ∧ n ≤ iI t.length → K (some (.int (iI 1))) (uset (sI σ 111 (upd (σ.1 111) 0 (iI 0))) (σ.1 112) n)) : Call l D cA ad d mX12_end [.ref 111, .int n] σ K := by
  refine call_go (by decide) (Nat.le_of_ble_eq_true rfl) (show Go l D cA ad d mX12_end 0 [.ref 111, .int n] [] σ K from ?_)
  refine go_aload_n dX12_end_0 rfl ?_
  refine go_iconst (v := iI 0) dX12_end_1 (by decide) ?_
  refine go_putI fX12_96 rfl dX12_end_2 rfl rfl rfl ?_
  generalize hσ : sI σ 111 (upd (σ.1 111) 0 (iI 0)) = σ0 at hK1 hK2 ⊢
  have hT : TM σ0 t := by subst hσ; exact hT
  have e0 : σ.1 112 = σ0.1 112 := by subst hσ; rfl
  rw [e0] at hK2
  refine go_iload_n dX12_end_5 rfl ?_
  refine go_if_lt (tgt := 17) dX12_end_6 (by decide) (fun h6 => ?_) (fun h6 => ?_)
  · refine go_iconst (v := iI 0) dX12_end_17 (by decide) ?_
    refine go_iret rfl rfl dX12_end_18 ?_
    refine hK1 (fun q => ?_)
    first | exact absurd q.1 (Int32.not_le.mpr h6) | (rw [hT.1] at h14; exact h14 q.2)
  · refine go_iload_n dX12_end_9 rfl ?_
    refine go_aload_n dX12_end_10 rfl ?_
    refine go_getI fX12_109 dX12_end_11 rfl ?_
    refine go_icmp_le (tgt := 19) dX12_end_14 (by decide) (fun h14 => ?_) (fun h14 => ?_)
    · refine go_aload_n dX12_end_19 rfl ?_
      refine go_iload_n dX12_end_20 rfl ?_
      refine go_putI fX12_109 rfl dX12_end_21 rfl rfl rfl ?_
      refine go_iconst (v := iI 1) dX12_end_24 (by decide) ?_
      refine go_iret rfl rfl dX12_end_25 ?_
      rw [hT.1] at h14
      have := hK2 ⟨Int32.not_lt.mp h6, h14⟩
      unfold uset at this
      rw [sI_self] at this
      exact this
    · refine go_iconst (v := iI 0) dX12_end_17 (by decide) ?_
      refine go_iret rfl rfl dX12_end_18 ?_
      refine hK1 (fun q => ?_)
      first | exact absurd q.1 (Int32.not_le.mpr h6) | (rw [hT.1] at h14; exact h14 q.2)

