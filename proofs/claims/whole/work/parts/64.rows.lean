/-! rows copied -/
theorem go_cpyN {l : Launch} {D : va_G} {cA ad : Nat → Nat} {d : Nat} {M : Mt} {pc : Nat} {lv st : List Value} {σ : AS} {K : Option Value → AS → Prop} {index k0 k1 n0 n1 sp dp n : Nat} (hs0 : sh[k0]? = some (1, n0)) (hs1 : sh[k1]? = some (1, n1)) (hw : aL M.1.cls index) (hd : decode M.2.1 pc = .ok (.invokestatic index, 3)) (h4 : sp + n ≤ n0) (h5 : dp + n ≤ n1) (hb : n0 ≤ 100000 ∧ n1 ≤ 100000) (hc : (st.map fun v => v.category).sum ≤ 8) (kk : ∀ r, (∀ i, i < n → r (dp + i) = σ.1 k0 (sp + i)) → (∀ j, j < dp ∨ dp + n ≤ j → r j = σ.1 k1 j) → Go l D cA ad (d + 1) M (pc + 3) lv st (sI σ k1 r) K) : Go l D cA ad (d + 1) M pc lv (.int (iI n) :: .int (iI dp) :: .ref k1 :: .int (iI sp) :: .ref k0 :: st) σ K := by
  have e1 := cl_n sp (by omega)
  have e2 := cl_n dp (by omega)
  have e3 := cl_n n (by omega)
  refine go_copyi hs0 hw hd hs1 (by rw [iI_lt0 (by omega)]; omega) (by rw [iI_lt0 (by omega)]; omega) (by rw [iI_lt0 (by omega)]; omega) (by rw [e1, e3]; exact h4) (by rw [e2, e3]; exact h5) hc ?_
  rw [e1, e2, e3]
  refine kk _ (fun i hi => ?_) (fun j hj => ?_)
  · unfold va_cpy; rw [if_pos (by omega), show dp + i - dp = i by omega]
  · unfold va_cpy; rw [if_neg (by omega)]
def RwC (r : Nat → Int32) (w : WT) : Prop := (∀ i, i < 7 → r i = iI (wa w i) ∧ r (7 + i) = iI (ca w i) ∧ r (14 + i) = iI (pk w i)) ∧ r 21 = iI (opn w) ∧ r 22 = iI (ovr w) ∧ r 23 = iI (dy w)
def litP (s : PS) (w : WT) (i : Nat) : Bool := decide (wa w i ≤ pd s i 6)
def litF (s : PS) (w : WT) : Nat := btF (litP s w) (nP s)
theorem ofNat7 : Int32.ofNat 7 = iI 7 := rfl
def clrB (m j : Nat) : Nat := if m / 2 ^ j % 2 = 1 then m - 2 ^ j else m
theorem b_clr : ∀ m, m < 512 → ∀ j, j < 9 → iI (m : Nat) &&& ((iI 1 <<< (iI (j : Nat) &&& 31)) ^^^ iI (-1)) = iI ((clrB m j : Nat) : Int) := by decide +kernel
def pourF (w : WT) (p : Nat) (v : Int) : WT := (setF (wa w) p (wa w p + v), w.2)
def setO (w : WT) (m : Nat) : WT := (wa w, ca w, pk w, m, ovr w, dy w)
theorem WC_o {σ : AS} {b : Nat} {w : WT} {m : Nat} (hW : WC σ b w) : WC (sI σ b (upd (σ.1 b) 3 (iI m))) b (setO w m) := by
  refine ⟨fun i hi => ?_, ?_, ?_, ?_⟩
  · rw [sI_ne _ _ _ _ (by omega), sI_ne _ _ _ _ (by omega), sI_ne _ _ _ _ (by omega)]; exact hW.1 i hi
  · rw [sI_same, upd_same]; rfl
  · rw [sI_same, upd_ne _ _ _ _ (by decide)]; exact hW.2.2.1
  · rw [sI_same, upd_ne _ _ _ _ (by decide)]; exact hW.2.2.2
theorem WC_p {σ : AS} {b p : Nat} {w : WT} {v : Int} (hW : WC σ b w) : WC (sI σ (b + 1) (upd (σ.1 (b + 1)) p (iI (wa w p + v)))) b (pourF w p v) := by
  refine ⟨fun i hi => ⟨?_, ?_, ?_⟩, ?_, ?_, ?_⟩
  · rw [sI_same]; exact set_ok (fun i hi => (hW.1 i hi).1) hi
  · rw [sI_ne _ _ _ _ (by omega)]; exact (hW.1 i hi).2.1
  · rw [sI_ne _ _ _ _ (by omega)]; exact (hW.1 i hi).2.2
  · rw [sI_ne _ _ _ _ (by omega)]; exact hW.2.1
  · rw [sI_ne _ _ _ _ (by omega)]; exact hW.2.2.1
  · rw [sI_ne _ _ _ _ (by omega)]; exact hW.2.2.2
theorem so4 {l : Launch} {D : va_G} {cA ad : Nat → Nat} {d : Nat} {σ : AS} {K : Option Value → AS → Prop} {c : Nat} {f : Nat → Int} (hc : sh[c]? = some (1, 7)) (hf : ∀ i, i < 7 → σ.1 c i = iI (f i)) (hK : K (some (.int (iI (suF f 7)))) σ) : ∀ i, i ≤ 7 → Go l D cA ad d mX10_sumOf 4 [.ref c, .int (iI (suF f i)), .int (iI i)] [] σ K := by
  refine up_loop ?_ (fun i hi ih => ?_)
  · refine go_iload_n dX10_sumOf_4 rfl ?_
    refine go_aload_n dX10_sumOf_5 rfl ?_
    refine go_alen1 dX10_sumOf_6 hc ?_
    refine go_icmp_ge (tgt := 22) dX10_sumOf_7 (by decide) (fun h7 => ?_) (fun h7 => ?_)
    · refine go_iload_n dX10_sumOf_22 rfl ?_
      refine go_iret rfl rfl dX10_sumOf_23 ?_
      exact hK
    · exfalso
      rw [ofNat7, iI_le (by omega)] at h7
      omega
  · refine go_iload_n dX10_sumOf_4 rfl ?_
    refine go_aload_n dX10_sumOf_5 rfl ?_
    refine go_alen1 dX10_sumOf_6 hc ?_
    refine go_icmp_ge (tgt := 22) dX10_sumOf_7 (by decide) (fun h7 => ?_) (fun h7 => ?_)
    · exfalso
      rw [ofNat7, iI_le (by omega)] at h7
      omega
    · refine go_iload_n dX10_sumOf_10 rfl ?_
      refine go_aload_n dX10_sumOf_11 rfl ?_
      refine go_iload_n dX10_sumOf_12 rfl ?_
      refine go_iald dX10_sumOf_13 hc (vp_iI (by omega)) ?_
      rw [cl_n _ (by omega), hf i hi]
      refine go_iadd dX10_sumOf_14 ?_
      rw [iI_add]
      refine go_istore_n dX10_sumOf_15 (Nat.le_of_ble_eq_true rfl) rfl ?_
      refine go_iincI dX10_sumOf_16 rfl (Nat.le_of_ble_eq_true rfl) rfl ?_
      refine go_goto (tgt := 4) dX10_sumOf_19 (by decide) ?_
      simp only [List.set, iI_add]
      exact ih

theorem ct_X10_sumOf {l : Launch} {D : va_G} {cA ad : Nat → Nat} {d : Nat} {σ : AS} {K : Option Value → AS → Prop} {c : Nat} {f : Nat → Int} (hc : sh[c]? = some (1, 7)) (hf : ∀ i, i < 7 → σ.1 c i = iI (f i)) (hK : K (some (.int (iI (suF f 7)))) σ) : Call l D cA ad d mX10_sumOf [.ref c] σ K := by
  refine call_go (by decide) (Nat.le_of_ble_eq_true rfl) (show Go l D cA ad d mX10_sumOf 0 [.ref c, .null, .null] [] σ K from ?_)
  refine go_iconst (v := iI 0) dX10_sumOf_0 (by decide) ?_
  refine go_istore_n dX10_sumOf_1 (Nat.le_of_ble_eq_true rfl) rfl ?_
  refine go_iconst (v := iI 0) dX10_sumOf_2 (by decide) ?_
  refine go_istore_n dX10_sumOf_3 (Nat.le_of_ble_eq_true rfl) rfl ?_
  exact so4 hc hf hK 0 (by omega)

theorem ba4 {l : Launch} {D : va_G} {cA ad : Nat → Nat} {d : Nat} {σ : AS} {K : Option Value → AS → Prop} {s : PS} {w : WT} {b : Nat} (hR : RO σ) (hT : TwC σ s) (hS : TwK s) (hb : WB b) (hW : WC σ b w) (hw : WK s w) (hK : K (some (.int (iI (barF s w)))) σ) : ∀ i, i ≤ nP s → Go l D cA ad d mX9_bareAmong 4 [.ref 3, .ref b, .int (iI (btF (barP s w) i : Nat)), .int (iI i)] [] σ K := by
  have hP7 := hS.1
  refine up_loop ?_ (fun i hi ih => ?_)
  · refine go_iload_n dX9_bareAmong_4 rfl ?_
    refine go_aload_n dX9_bareAmong_5 rfl ?_
    refine go_getI fX9_35 dX9_bareAmong_6 rfl ?_
    refine go_icmp_ge (tgt := 41) dX9_bareAmong_9 (by decide) (fun h9 => ?_) (fun h9 => ?_)
    · refine go_iload_n dX9_bareAmong_41 rfl ?_
      refine go_iret rfl rfl dX9_bareAmong_42 ?_
      exact hK
    · exfalso
      rw [hT.1, iI_le (by omega)] at h9
      omega
  · refine go_iload_n dX9_bareAmong_4 rfl ?_
    refine go_aload_n dX9_bareAmong_5 rfl ?_
    refine go_getI fX9_35 dX9_bareAmong_6 rfl ?_
    refine go_icmp_ge (tgt := 41) dX9_bareAmong_9 (by decide) (fun h9 => ?_) (fun h9 => ?_)
    · exfalso
      rw [hT.1, iI_le (by omega)] at h9
      omega
    · have hbl := btF_512 (barP s w) i (by omega)
      have h7 := wk7 hS hw i
      have hpi := hS.2.2.2.1 i hi
      unfold PdK at hpi
      refine go_aload_n dX9_bareAmong_12 rfl ?_
      refine go_getR fX9_113 dX9_bareAmong_13 hb.1 (hR _ _ _ hb.2.2.2.2.1) ?_
      refine go_iload_n dX9_bareAmong_16 rfl ?_
      refine go_iald dX9_bareAmong_17 hb.2.1 (vp_iI (by omega)) ?_
      rw [cl_n _ (by omega), (hW.1 i (by omega)).1]
      refine go_aload_n dX9_bareAmong_18 rfl ?_
      refine go_getR fX9_27 dX9_bareAmong_19 rfl (hR _ _ _ rfl) ?_
      refine go_iload_n dX9_bareAmong_22 rfl ?_
      refine go_aald dX9_bareAmong_23 rfl (by decide) (vp_iI (by omega)) (by rw [cl_n _ (by omega)]; exact hR _ _ _ (r25 _ (by omega)).2.2.1) ?_
      refine go_iconst (v := iI 3) dX9_bareAmong_24 (by decide) ?_
      refine go_iald dX9_bareAmong_25 (r25 _ (by omega)).2.2.2 (vp_iI (by decide)) ?_
      rw [cl_3, hT.2.2.2.1 i 3 (by omega) (by decide)]
      refine go_icmp_ge (tgt := 35) dX9_bareAmong_26 (by decide) (fun h26 => ?_) (fun h26 => ?_)
      · rw [iI_le (by omega)] at h26
        rw [btF_f (by unfold barP; exact decide_eq_false (by omega))] at ih
        refine go_iincI dX9_bareAmong_35 rfl (Nat.le_of_ble_eq_true rfl) rfl ?_
        refine go_goto (tgt := 4) dX9_bareAmong_38 (by decide) ?_
        simp only [List.set, iI_add]
        exact ih
      · rw [iI_le (by omega)] at h26
        refine go_iload_n dX9_bareAmong_29 rfl ?_
        refine go_iconst (v := iI 1) dX9_bareAmong_30 (by decide) ?_
        refine go_iload_n dX9_bareAmong_31 rfl ?_
        refine go_ishl dX9_bareAmong_32 ?_
        refine go_ior dX9_bareAmong_33 ?_
        rw [b_or _ hbl i (by omega)]
        rw [btF_t (by unfold barP; exact decide_eq_true (by omega))] at ih
        refine go_istore_n dX9_bareAmong_34 (Nat.le_of_ble_eq_true rfl) rfl ?_
        refine go_iincI dX9_bareAmong_35 rfl (Nat.le_of_ble_eq_true rfl) rfl ?_
        refine go_goto (tgt := 4) dX9_bareAmong_38 (by decide) ?_
        simp only [List.set, iI_add]
        exact ih

theorem ct_X9_bareAmong {l : Launch} {D : va_G} {cA ad : Nat → Nat} {d : Nat} {σ : AS} {K : Option Value → AS → Prop} {s : PS} {w : WT} {b : Nat} (hR : RO σ) (hT : TwC σ s) (hS : TwK s) (hb : WB b) (hW : WC σ b w) (hw : WK s w) (hK : K (some (.int (iI (barF s w)))) σ) : Call l D cA ad d mX9_bareAmong [.ref 3, .ref b] σ K := by
  refine call_go (by decide) (Nat.le_of_ble_eq_true rfl) (show Go l D cA ad d mX9_bareAmong 0 [.ref 3, .ref b, .null, .null] [] σ K from ?_)
  refine go_iconst (v := iI 0) dX9_bareAmong_0 (by decide) ?_
  refine go_istore_n dX9_bareAmong_1 (Nat.le_of_ble_eq_true rfl) rfl ?_
  refine go_iconst (v := iI 0) dX9_bareAmong_2 (by decide) ?_
  refine go_istore_n dX9_bareAmong_3 (Nat.le_of_ble_eq_true rfl) rfl ?_
  exact ba4 hR hT hS hb hW hw hK 0 (by omega)

theorem la4 {l : Launch} {D : va_G} {cA ad : Nat → Nat} {d : Nat} {σ : AS} {K : Option Value → AS → Prop} {s : PS} {w : WT} {b : Nat} (hR : RO σ) (hT : TwC σ s) (hS : TwK s) (hb : WB b) (hW : WC σ b w) (hw : WK s w) (hK : K (some (.int (iI (litF s w)))) σ) : ∀ i, i ≤ nP s → Go l D cA ad d mX9_litAmong 4 [.ref 3, .ref b, .int (iI (btF (litP s w) i : Nat)), .int (iI i)] [] σ K := by
  have hP7 := hS.1
  refine up_loop ?_ (fun i hi ih => ?_)
  · refine go_iload_n dX9_litAmong_4 rfl ?_
    refine go_aload_n dX9_litAmong_5 rfl ?_
    refine go_getI fX9_35 dX9_litAmong_6 rfl ?_
    refine go_icmp_ge (tgt := 42) dX9_litAmong_9 (by decide) (fun h9 => ?_) (fun h9 => ?_)
    · refine go_iload_n dX9_litAmong_42 rfl ?_
      refine go_iret rfl rfl dX9_litAmong_43 ?_
      exact hK
    · exfalso
      rw [hT.1, iI_le (by omega)] at h9
      omega
  · refine go_iload_n dX9_litAmong_4 rfl ?_
    refine go_aload_n dX9_litAmong_5 rfl ?_
    refine go_getI fX9_35 dX9_litAmong_6 rfl ?_
    refine go_icmp_ge (tgt := 42) dX9_litAmong_9 (by decide) (fun h9 => ?_) (fun h9 => ?_)
    · exfalso
      rw [hT.1, iI_le (by omega)] at h9
      omega
    · have hbl := btF_512 (litP s w) i (by omega)
      have h7 := wk7 hS hw i
      have hpi := hS.2.2.2.1 i hi
      unfold PdK at hpi
      refine go_aload_n dX9_litAmong_12 rfl ?_
      refine go_getR fX9_113 dX9_litAmong_13 hb.1 (hR _ _ _ hb.2.2.2.2.1) ?_
      refine go_iload_n dX9_litAmong_16 rfl ?_
      refine go_iald dX9_litAmong_17 hb.2.1 (vp_iI (by omega)) ?_
      rw [cl_n _ (by omega), (hW.1 i (by omega)).1]
      refine go_aload_n dX9_litAmong_18 rfl ?_
      refine go_getR fX9_27 dX9_litAmong_19 rfl (hR _ _ _ rfl) ?_
      refine go_iload_n dX9_litAmong_22 rfl ?_
      refine go_aald dX9_litAmong_23 rfl (by decide) (vp_iI (by omega)) (by rw [cl_n _ (by omega)]; exact hR _ _ _ (r25 _ (by omega)).2.2.1) ?_
      refine go_bipush (v := iI 6) dX9_litAmong_24 (by decide) ?_
      refine go_iald dX9_litAmong_26 (r25 _ (by omega)).2.2.2 (vp_iI (by decide)) ?_
      rw [show (iI 6).toNatClampNeg = 6 by decide, hT.2.2.2.1 i 6 (by omega) (by decide)]
      refine go_icmp_gt (tgt := 36) dX9_litAmong_27 (by decide) (fun h27 => ?_) (fun h27 => ?_)
      · rw [iI_lt (by omega)] at h27
        rw [btF_f (by unfold litP; exact decide_eq_false (by omega))] at ih
        refine go_iincI dX9_litAmong_36 rfl (Nat.le_of_ble_eq_true rfl) rfl ?_
        refine go_goto (tgt := 4) dX9_litAmong_39 (by decide) ?_
        simp only [List.set, iI_add]
        exact ih
      · rw [iI_lt (by omega)] at h27
        refine go_iload_n dX9_litAmong_30 rfl ?_
        refine go_iconst (v := iI 1) dX9_litAmong_31 (by decide) ?_
        refine go_iload_n dX9_litAmong_32 rfl ?_
        refine go_ishl dX9_litAmong_33 ?_
        refine go_ior dX9_litAmong_34 ?_
        rw [b_or _ hbl i (by omega)]
        rw [btF_t (by unfold litP; exact decide_eq_true (by omega))] at ih
        refine go_istore_n dX9_litAmong_35 (Nat.le_of_ble_eq_true rfl) rfl ?_
        refine go_iincI dX9_litAmong_36 rfl (Nat.le_of_ble_eq_true rfl) rfl ?_
        refine go_goto (tgt := 4) dX9_litAmong_39 (by decide) ?_
        simp only [List.set, iI_add]
        exact ih

theorem ct_X9_litAmong {l : Launch} {D : va_G} {cA ad : Nat → Nat} {d : Nat} {σ : AS} {K : Option Value → AS → Prop} {s : PS} {w : WT} {b : Nat} (hR : RO σ) (hT : TwC σ s) (hS : TwK s) (hb : WB b) (hW : WC σ b w) (hw : WK s w) (hK : K (some (.int (iI (litF s w)))) σ) : Call l D cA ad d mX9_litAmong [.ref 3, .ref b] σ K := by
  refine call_go (by decide) (Nat.le_of_ble_eq_true rfl) (show Go l D cA ad d mX9_litAmong 0 [.ref 3, .ref b, .null, .null] [] σ K from ?_)
  refine go_iconst (v := iI 0) dX9_litAmong_0 (by decide) ?_
  refine go_istore_n dX9_litAmong_1 (Nat.le_of_ble_eq_true rfl) rfl ?_
  refine go_iconst (v := iI 0) dX9_litAmong_2 (by decide) ?_
  refine go_istore_n dX9_litAmong_3 (Nat.le_of_ble_eq_true rfl) rfl ?_
  exact la4 hR hT hS hb hW hw hK 0 (by omega)

theorem sp4 {l : Launch} {D : va_G} {cA ad : Nat → Nat} {d : Nat} {σ : AS} {K : Option Value → AS → Prop} {s : PS} {j : Nat} (hR : RO σ) (hT : TwC σ s) (hS : TwK s) (hj : j < 9) (hK : K (some (.int (iI (suF (fun i => pd s i j) (nP s))))) σ) : ∀ i, i ≤ nP s → Go l D cA ad d mX9_sumOfPonds 4 [.ref 3, .int (iI j), .int (iI (suF (fun i => pd s i j) i)), .int (iI i)] [] σ K := by
  have hP7 := hS.1
  refine up_loop ?_ (fun i hi ih => ?_)
  · refine go_iload_n dX9_sumOfPonds_4 rfl ?_
    refine go_aload_n dX9_sumOfPonds_5 rfl ?_
    refine go_getI fX9_35 dX9_sumOfPonds_6 rfl ?_
    refine go_icmp_ge (tgt := 29) dX9_sumOfPonds_9 (by decide) (fun h9 => ?_) (fun h9 => ?_)
    · refine go_iload_n dX9_sumOfPonds_29 rfl ?_
      refine go_iret rfl rfl dX9_sumOfPonds_30 ?_
      exact hK
    · exfalso
      rw [hT.1, iI_le (by omega)] at h9
      omega
  · refine go_iload_n dX9_sumOfPonds_4 rfl ?_
    refine go_aload_n dX9_sumOfPonds_5 rfl ?_
    refine go_getI fX9_35 dX9_sumOfPonds_6 rfl ?_
    refine go_icmp_ge (tgt := 29) dX9_sumOfPonds_9 (by decide) (fun h9 => ?_) (fun h9 => ?_)
    · exfalso
      rw [hT.1, iI_le (by omega)] at h9
      omega
    · refine go_iload_n dX9_sumOfPonds_12 rfl ?_
      refine go_aload_n dX9_sumOfPonds_13 rfl ?_
      refine go_getR fX9_27 dX9_sumOfPonds_14 rfl (hR _ _ _ rfl) ?_
      refine go_iload_n dX9_sumOfPonds_17 rfl ?_
      refine go_aald dX9_sumOfPonds_18 rfl (by decide) (vp_iI (by omega)) (by rw [cl_n _ (by omega)]; exact hR _ _ _ (r25 _ (by omega)).2.2.1) ?_
      refine go_iload_n dX9_sumOfPonds_19 rfl ?_
      refine go_iald dX9_sumOfPonds_20 (r25 _ (by omega)).2.2.2 (vp_iI (by omega)) ?_
      rw [cl_n _ (by omega), hT.2.2.2.1 i j (by omega) hj]
      refine go_iadd dX9_sumOfPonds_21 ?_
      rw [iI_add]
      refine go_istore_n dX9_sumOfPonds_22 (Nat.le_of_ble_eq_true rfl) rfl ?_
      refine go_iincI dX9_sumOfPonds_23 rfl (Nat.le_of_ble_eq_true rfl) rfl ?_
      refine go_goto (tgt := 4) dX9_sumOfPonds_26 (by decide) ?_
      simp only [List.set, iI_add]
      exact ih

theorem ct_X9_sumOfPonds {l : Launch} {D : va_G} {cA ad : Nat → Nat} {d : Nat} {σ : AS} {K : Option Value → AS → Prop} {s : PS} {j : Nat} (hR : RO σ) (hT : TwC σ s) (hS : TwK s) (hj : j < 9) (hK : K (some (.int (iI (suF (fun i => pd s i j) (nP s))))) σ) : Call l D cA ad d mX9_sumOfPonds [.ref 3, .int (iI j)] σ K := by
  refine call_go (by decide) (Nat.le_of_ble_eq_true rfl) (show Go l D cA ad d mX9_sumOfPonds 0 [.ref 3, .int (iI j), .null, .null] [] σ K from ?_)
  refine go_iconst (v := iI 0) dX9_sumOfPonds_0 (by decide) ?_
  refine go_istore_n dX9_sumOfPonds_1 (Nat.le_of_ble_eq_true rfl) rfl ?_
  refine go_iconst (v := iI 0) dX9_sumOfPonds_2 (by decide) ?_
  refine go_istore_n dX9_sumOfPonds_3 (Nat.le_of_ble_eq_true rfl) rfl ?_
  exact sp4 hR hT hS hj hK 0 (by omega)

theorem ct_X10_become {l : Launch} {D : va_G} {cA ad : Nat → Nat} {d : Nat} {σ : AS} {K : Option Value → AS → Prop} {w : WT} {b b' : Nat} (hR : RO σ) (hb : WB b) (hb2 : WB b') (hbb : b + 3 < b' ∨ b' + 3 < b) (hW : WC σ b' w) (hK : ∀ τ, Fr b (b + 3) σ τ → WC τ b w → K none τ) : Call l D cA ad (d + 1) mX10_become [.ref b, .ref b'] σ K := by
  refine call_go (by decide) (Nat.le_of_ble_eq_true rfl) (show Go l D cA ad (d + 1) mX10_become 0 [.ref b, .ref b'] [] σ K from ?_)
  refine go_aload_n dX10_become_0 rfl ?_
  refine go_getR fX10_9 dX10_become_1 hb2.1 (hR _ _ _ hb2.2.2.2.2.1) ?_
  refine go_iconst (v := iI 0) dX10_become_4 (by decide) ?_
  refine go_aload_n dX10_become_5 rfl ?_
  refine go_getR fX10_9 dX10_become_6 hb.1 (hR _ _ _ hb.2.2.2.2.1) ?_
  refine go_iconst (v := iI 0) dX10_become_9 (by decide) ?_
  refine go_bipush (v := iI 7) dX10_become_10 (by decide) ?_
  refine go_cpyN (sp := 0) (dp := 0) (n := 7) hb2.2.1 hb.2.1 wX10_47 dX10_become_12 (by omega) (by omega) (by decide) (Nat.le_of_ble_eq_true rfl) (fun x hx hxn => ?_)
  refine go_aload_n dX10_become_15 rfl ?_
  refine go_getR fX10_15 dX10_become_16 hb2.1 (hR _ _ _ hb2.2.2.2.2.2.1) ?_
  refine go_iconst (v := iI 0) dX10_become_19 (by decide) ?_
  refine go_aload_n dX10_become_20 rfl ?_
  refine go_getR fX10_15 dX10_become_21 hb.1 (hR _ _ _ hb.2.2.2.2.2.1) ?_
  refine go_iconst (v := iI 0) dX10_become_24 (by decide) ?_
  refine go_bipush (v := iI 7) dX10_become_25 (by decide) ?_
  refine go_cpyN (sp := 0) (dp := 0) (n := 7) hb2.2.2.1 hb.2.2.1 wX10_47 dX10_become_27 (by omega) (by omega) (by decide) (Nat.le_of_ble_eq_true rfl) (fun y hy hyn => ?_)
  refine go_aload_n dX10_become_30 rfl ?_
  refine go_getR fX10_18 dX10_become_31 hb2.1 (hR _ _ _ hb2.2.2.2.2.2.2) ?_
  refine go_iconst (v := iI 0) dX10_become_34 (by decide) ?_
  refine go_aload_n dX10_become_35 rfl ?_
  refine go_getR fX10_18 dX10_become_36 hb.1 (hR _ _ _ hb.2.2.2.2.2.2) ?_
  refine go_iconst (v := iI 0) dX10_become_39 (by decide) ?_
  refine go_bipush (v := iI 7) dX10_become_40 (by decide) ?_
  refine go_cpyN (sp := 0) (dp := 0) (n := 7) hb2.2.2.2.1 hb.2.2.2.1 wX10_47 dX10_become_42 (by omega) (by omega) (by decide) (Nat.le_of_ble_eq_true rfl) (fun z hz hzn => ?_)
  have hx' : ∀ i, i < 7 → x i = iI (wa w i) := fun i hi => by have := hx i hi; rw [Nat.zero_add] at this; rw [this]; exact (hW.1 i hi).1
  have hy' : ∀ i, i < 7 → y i = iI (ca w i) := fun i hi => by have := hy i hi; rw [Nat.zero_add, sI_ne _ _ _ _ (by omega)] at this; rw [this]; exact (hW.1 i hi).2.1
  have hz' : ∀ i, i < 7 → z i = iI (pk w i) := fun i hi => by have := hz i hi; rw [Nat.zero_add, sI_ne _ _ _ _ (by omega), sI_ne _ _ _ _ (by omega)] at this; rw [this]; exact (hW.1 i hi).2.2
  have fr3 : Fr b (b + 3) σ (sI (sI (sI σ (b + 1) x) (b + 2) y) (b + 3) z) := ((Fr.rf.sI (by omega) (by omega)).sI (by omega) (by omega)).sI (by omega) (by omega)
  have e1 : (sI (sI (sI σ (b + 1) x) (b + 2) y) (b + 3) z).1 (b + 1) = x := by rw [sI_ne _ _ _ _ (by omega), sI_ne _ _ _ _ (by omega), sI_same]
  have e2 : (sI (sI (sI σ (b + 1) x) (b + 2) y) (b + 3) z).1 (b + 2) = y := by rw [sI_ne _ _ _ _ (by omega), sI_same]
  have e3 : (sI (sI (sI σ (b + 1) x) (b + 2) y) (b + 3) z).1 (b + 3) = z := sI_same _ _ _
  generalize sI (sI (sI σ (b + 1) x) (b + 2) y) (b + 3) z = τ at fr3 e1 e2 e3 ⊢
  refine go_aload_n dX10_become_45 rfl ?_
  refine go_aload_n dX10_become_46 rfl ?_
  refine go_getI fX10_21 dX10_become_47 hb2.1 ?_
  rw [fr3.2 b' (by omega), hW.2.1]
  refine go_putI fX10_21 rfl dX10_become_50 hb.1 rfl rfl ?_
  refine go_aload_n dX10_become_53 rfl ?_
  refine go_aload_n dX10_become_54 rfl ?_
  refine go_getI fX10_41 dX10_become_55 hb2.1 ?_
  rw [sI_ne _ _ _ _ (by omega), fr3.2 b' (by omega), hW.2.2.1]
  refine go_putI fX10_41 rfl dX10_become_58 hb.1 rfl rfl ?_
  rw [sI_same, sI_sI]
  refine go_aload_n dX10_become_61 rfl ?_
  refine go_aload_n dX10_become_62 rfl ?_
  refine go_getI fX10_44 dX10_become_63 hb2.1 ?_
  rw [sI_ne _ _ _ _ (by omega), fr3.2 b' (by omega), hW.2.2.2]
  refine go_putI fX10_44 rfl dX10_become_66 hb.1 rfl rfl ?_
  rw [sI_same, sI_sI]
  refine go_vret rfl dX10_become_69 ?_
  refine hK _ (fr3.sI (by omega) (by omega)) ⟨fun i hi => ⟨?_, ?_, ?_⟩, ?_, ?_, ?_⟩
  · rw [sI_ne _ _ _ _ (by omega), e1]; exact hx' i hi
  · rw [sI_ne _ _ _ _ (by omega), e2]; exact hy' i hi
  · rw [sI_ne _ _ _ _ (by omega), e3]; exact hz' i hi
  · rw [sI_same, upd_ne _ _ _ _ (by decide), upd_ne _ _ _ _ (by decide), upd_same]
  · rw [sI_same, upd_ne _ _ _ _ (by decide), upd_same]
  · rw [sI_same, upd_same]

theorem ct_X10_writeTo {l : Launch} {D : va_G} {cA ad : Nat → Nat} {d : Nat} {σ : AS} {K : Option Value → AS → Prop} {w : WT} {m : Nat} (hR : RO σ) (hm : m < 40) (hW : WC σ 87 w) (hK : ∀ r, RwC (fun i => r (25 * m + i)) w → (∀ j, j < 25 * m ∨ 25 * m + 24 ≤ j → r j = σ.1 94 j) → K none (sI σ 94 r)) : Call l D cA ad (d + 1) mX10_writeTo [.ref 87, .ref 94, .int (iI ((25 * m : Nat) : Int))] σ K := by
  refine call_go (by decide) (Nat.le_of_ble_eq_true rfl) (show Go l D cA ad (d + 1) mX10_writeTo 0 [.ref 87, .ref 94, .int (iI ((25 * m : Nat) : Int))] [] σ K from ?_)
  refine go_iload_n dX10_writeTo_0 rfl ?_
  refine go_if_lt (tgt := 13) dX10_writeTo_1 (by decide) (fun h1 => ?_) (fun h1 => ?_)
  · exfalso
    rw [iI_lt0 (by omega)] at h1
    omega
  · refine go_iload_n dX10_writeTo_4 rfl ?_
    refine go_bipush (v := iI 24) dX10_writeTo_5 (by decide) ?_
    refine go_iadd dX10_writeTo_7 ?_
    refine go_aload_n dX10_writeTo_8 rfl ?_
    refine go_alen1 dX10_writeTo_9 rfl ?_
    refine go_icmp_le (tgt := 14) dX10_writeTo_10 (by decide) (fun h10 => ?_) (fun h10 => ?_)
    · refine go_aload_n dX10_writeTo_14 rfl ?_
      refine go_getR fX10_9 dX10_writeTo_15 rfl (hR _ _ _ rfl) ?_
      refine go_iconst (v := iI 0) dX10_writeTo_18 (by decide) ?_
      refine go_aload_n dX10_writeTo_19 rfl ?_
      refine go_iload_n dX10_writeTo_20 rfl ?_
      refine go_bipush (v := iI 7) dX10_writeTo_21 (by decide) ?_
      refine go_cpyN (sp := 0) (dp := 25 * m) (n := 7) rfl rfl wX10_47 dX10_writeTo_23 (by omega) (by omega) (by decide) (Nat.le_of_ble_eq_true rfl) (fun x hx hxn => ?_)
      refine go_aload_n dX10_writeTo_26 rfl ?_
      refine go_getR fX10_15 dX10_writeTo_27 rfl (hR _ _ _ rfl) ?_
      refine go_iconst (v := iI 0) dX10_writeTo_30 (by decide) ?_
      refine go_aload_n dX10_writeTo_31 rfl ?_
      refine go_iload_n dX10_writeTo_32 rfl ?_
      refine go_bipush (v := iI 7) dX10_writeTo_33 (by decide) ?_
      refine go_iadd dX10_writeTo_35 ?_
      rw [iI_add, show ((25 * m : Nat) : Int) + 7 = ((25 * m + 7 : Nat) : Int) by omega]
      refine go_bipush (v := iI 7) dX10_writeTo_36 (by decide) ?_
      refine go_cpyN (sp := 0) (dp := 25 * m + 7) (n := 7) rfl rfl wX10_47 dX10_writeTo_38 (by omega) (by omega) (by decide) (Nat.le_of_ble_eq_true rfl) (fun y hy hyn => ?_)
      refine go_aload_n dX10_writeTo_41 rfl ?_
      refine go_getR fX10_18 dX10_writeTo_42 rfl (hR _ _ _ rfl) ?_
      refine go_iconst (v := iI 0) dX10_writeTo_45 (by decide) ?_
      refine go_aload_n dX10_writeTo_46 rfl ?_
      refine go_iload_n dX10_writeTo_47 rfl ?_
      refine go_bipush (v := iI 14) dX10_writeTo_48 (by decide) ?_
      refine go_iadd dX10_writeTo_50 ?_
      rw [iI_add, show ((25 * m : Nat) : Int) + 14 = ((25 * m + 14 : Nat) : Int) by omega]
      refine go_bipush (v := iI 7) dX10_writeTo_51 (by decide) ?_
      refine go_cpyN (sp := 0) (dp := 25 * m + 14) (n := 7) rfl rfl wX10_47 dX10_writeTo_53 (by omega) (by omega) (by decide) (Nat.le_of_ble_eq_true rfl) (fun z hz hzn => ?_)
      rw [sI_sI, sI_sI]
      simp only [sI_same] at hyn hzn
      refine go_aload_n dX10_writeTo_56 rfl ?_
      refine go_iload_n dX10_writeTo_57 rfl ?_
      refine go_bipush (v := iI 24) dX10_writeTo_58 (by decide) ?_
      refine go_iadd dX10_writeTo_60 ?_
      refine go_iconst (v := iI 3) dX10_writeTo_61 (by decide) ?_
      refine go_isub dX10_writeTo_62 ?_
      rw [iI_add, iI_sub, show ((25 * m : Nat) : Int) + 24 - 3 = ((25 * m + 21 : Nat) : Int) by omega]
      refine go_aload_n dX10_writeTo_63 rfl ?_
      refine go_getI fX10_21 dX10_writeTo_64 rfl ?_
      rw [sI_ne _ _ _ _ (by decide), hW.2.1]
      refine go_iast dX10_writeTo_67 rfl (vp_iI (by omega)) ?_
      rw [cl_n _ (by omega), sI_same, sI_sI]
      refine go_aload_n dX10_writeTo_68 rfl ?_
      refine go_iload_n dX10_writeTo_69 rfl ?_
      refine go_bipush (v := iI 24) dX10_writeTo_70 (by decide) ?_
      refine go_iadd dX10_writeTo_72 ?_
      refine go_iconst (v := iI 2) dX10_writeTo_73 (by decide) ?_
      refine go_isub dX10_writeTo_74 ?_
      rw [iI_add, iI_sub, show ((25 * m : Nat) : Int) + 24 - 2 = ((25 * m + 22 : Nat) : Int) by omega]
      refine go_aload_n dX10_writeTo_75 rfl ?_
      refine go_getI fX10_41 dX10_writeTo_76 rfl ?_
      rw [sI_ne _ _ _ _ (by decide), hW.2.2.1]
      refine go_iast dX10_writeTo_79 rfl (vp_iI (by omega)) ?_
      rw [cl_n _ (by omega), sI_same, sI_sI]
      refine go_aload_n dX10_writeTo_80 rfl ?_
      refine go_iload_n dX10_writeTo_81 rfl ?_
      refine go_bipush (v := iI 24) dX10_writeTo_82 (by decide) ?_
      refine go_iadd dX10_writeTo_84 ?_
      refine go_iconst (v := iI 1) dX10_writeTo_85 (by decide) ?_
      refine go_isub dX10_writeTo_86 ?_
      rw [iI_add, iI_sub, show ((25 * m : Nat) : Int) + 24 - 1 = ((25 * m + 23 : Nat) : Int) by omega]
      refine go_aload_n dX10_writeTo_87 rfl ?_
      refine go_getI fX10_44 dX10_writeTo_88 rfl ?_
      rw [sI_ne _ _ _ _ (by decide), hW.2.2.2]
      refine go_iast dX10_writeTo_91 rfl (vp_iI (by omega)) ?_
      rw [cl_n _ (by omega), sI_same, sI_sI]
      refine go_vret rfl dX10_writeTo_92 ?_
      refine hK _ ⟨fun i hi => ⟨?_, ?_, ?_⟩, ?_, ?_, ?_⟩ (fun j hj => ?_)
      · dsimp only
        rw [upd_ne _ _ _ _ (by omega), upd_ne _ _ _ _ (by omega), upd_ne _ _ _ _ (by omega), hzn _ (by omega), hyn _ (by omega), hx i hi, Nat.zero_add]; exact (hW.1 i hi).1
      · dsimp only
        rw [upd_ne _ _ _ _ (by omega), upd_ne _ _ _ _ (by omega), upd_ne _ _ _ _ (by omega), hzn _ (by omega), ← Nat.add_assoc, hy i hi, Nat.zero_add]; exact (hW.1 i hi).2.1
      · dsimp only
        rw [upd_ne _ _ _ _ (by omega), upd_ne _ _ _ _ (by omega), upd_ne _ _ _ _ (by omega), ← Nat.add_assoc, hz i hi, Nat.zero_add]; exact (hW.1 i hi).2.2
      · dsimp only
        rw [upd_ne _ _ _ _ (by omega), upd_ne _ _ _ _ (by omega), upd_same]
      · dsimp only
        rw [upd_ne _ _ _ _ (by omega), upd_same]
      · dsimp only
        rw [upd_same]
      · rw [upd_ne _ _ _ _ (by omega), upd_ne _ _ _ _ (by omega), upd_ne _ _ _ _ (by omega), hzn _ (by omega), hyn _ (by omega), hxn _ (by omega)]
    · exfalso
      rw [iI_add, show Int32.ofNat 1000 = iI 1000 from rfl, iI_le (by omega)] at h10
      omega

theorem ct_X10_readFrom {l : Launch} {D : va_G} {cA ad : Nat → Nat} {d : Nat} {σ : AS} {K : Option Value → AS → Prop} {w : WT} {m : Nat} (hR : RO σ) (hm : m < 40) (hA : RwC (fun i => σ.1 94 (25 * m + i)) w) (hK : ∀ τ, Fr 87 90 σ τ → WC τ 87 w → K none τ) : Call l D cA ad (d + 1) mX10_readFrom [.ref 87, .ref 94, .int (iI ((25 * m : Nat) : Int))] σ K := by
  refine call_go (by decide) (Nat.le_of_ble_eq_true rfl) (show Go l D cA ad (d + 1) mX10_readFrom 0 [.ref 87, .ref 94, .int (iI ((25 * m : Nat) : Int))] [] σ K from ?_)
  refine go_iload_n dX10_readFrom_0 rfl ?_
  refine go_if_lt (tgt := 13) dX10_readFrom_1 (by decide) (fun h1 => ?_) (fun h1 => ?_)
  · exfalso
    rw [iI_lt0 (by omega)] at h1
    omega
  · refine go_iload_n dX10_readFrom_4 rfl ?_
    refine go_bipush (v := iI 24) dX10_readFrom_5 (by decide) ?_
    refine go_iadd dX10_readFrom_7 ?_
    refine go_aload_n dX10_readFrom_8 rfl ?_
    refine go_alen1 dX10_readFrom_9 rfl ?_
    refine go_icmp_le (tgt := 14) dX10_readFrom_10 (by decide) (fun h10 => ?_) (fun h10 => ?_)
    · refine go_aload_n dX10_readFrom_14 rfl ?_
      refine go_iload_n dX10_readFrom_15 rfl ?_
      refine go_aload_n dX10_readFrom_16 rfl ?_
      refine go_getR fX10_9 dX10_readFrom_17 rfl (hR _ _ _ rfl) ?_
      refine go_iconst (v := iI 0) dX10_readFrom_20 (by decide) ?_
      refine go_bipush (v := iI 7) dX10_readFrom_21 (by decide) ?_
      refine go_cpyN (sp := 25 * m) (dp := 0) (n := 7) rfl rfl wX10_47 dX10_readFrom_23 (by omega) (by omega) (by decide) (Nat.le_of_ble_eq_true rfl) (fun x hx hxn => ?_)
      refine go_aload_n dX10_readFrom_26 rfl ?_
      refine go_iload_n dX10_readFrom_27 rfl ?_
      refine go_bipush (v := iI 7) dX10_readFrom_28 (by decide) ?_
      refine go_iadd dX10_readFrom_30 ?_
      rw [iI_add, show ((25 * m : Nat) : Int) + 7 = ((25 * m + 7 : Nat) : Int) by omega]
      refine go_aload_n dX10_readFrom_31 rfl ?_
      refine go_getR fX10_15 dX10_readFrom_32 rfl (hR _ _ _ rfl) ?_
      refine go_iconst (v := iI 0) dX10_readFrom_35 (by decide) ?_
      refine go_bipush (v := iI 7) dX10_readFrom_36 (by decide) ?_
      refine go_cpyN (sp := 25 * m + 7) (dp := 0) (n := 7) rfl rfl wX10_47 dX10_readFrom_38 (by omega) (by omega) (by decide) (Nat.le_of_ble_eq_true rfl) (fun y hy hyn => ?_)
      refine go_aload_n dX10_readFrom_41 rfl ?_
      refine go_iload_n dX10_readFrom_42 rfl ?_
      refine go_bipush (v := iI 14) dX10_readFrom_43 (by decide) ?_
      refine go_iadd dX10_readFrom_45 ?_
      rw [iI_add, show ((25 * m : Nat) : Int) + 14 = ((25 * m + 14 : Nat) : Int) by omega]
      refine go_aload_n dX10_readFrom_46 rfl ?_
      refine go_getR fX10_18 dX10_readFrom_47 rfl (hR _ _ _ rfl) ?_
      refine go_iconst (v := iI 0) dX10_readFrom_50 (by decide) ?_
      refine go_bipush (v := iI 7) dX10_readFrom_51 (by decide) ?_
      refine go_cpyN (sp := 25 * m + 14) (dp := 0) (n := 7) rfl rfl wX10_47 dX10_readFrom_53 (by omega) (by omega) (by decide) (Nat.le_of_ble_eq_true rfl) (fun z hz hzn => ?_)
      have hx' : ∀ i, i < 7 → x i = iI (wa w i) := fun i hi => by have := hx i hi; rw [Nat.zero_add] at this; rw [this]; exact (hA.1 i hi).1
      have hy' : ∀ i, i < 7 → y i = iI (ca w i) := fun i hi => by have := hy i hi; rw [Nat.zero_add, sI_ne _ _ _ _ (by omega)] at this; rw [this, Nat.add_assoc]; exact (hA.1 i hi).2.1
      have hz' : ∀ i, i < 7 → z i = iI (pk w i) := fun i hi => by have := hz i hi; rw [Nat.zero_add, sI_ne _ _ _ _ (by omega), sI_ne _ _ _ _ (by omega)] at this; rw [this, Nat.add_assoc]; exact (hA.1 i hi).2.2
      have fr3 : Fr 87 90 σ (sI (sI (sI σ 88 x) 89 y) 90 z) := ((Fr.rf.sI (by omega) (by omega)).sI (by omega) (by omega)).sI (by omega) (by omega)
      have e1 : (sI (sI (sI σ 88 x) 89 y) 90 z).1 88 = x := by rw [sI_ne _ _ _ _ (by omega), sI_ne _ _ _ _ (by omega), sI_same]
      have e2 : (sI (sI (sI σ 88 x) 89 y) 90 z).1 89 = y := by rw [sI_ne _ _ _ _ (by omega), sI_same]
      have e3 : (sI (sI (sI σ 88 x) 89 y) 90 z).1 90 = z := sI_same _ _ _
      generalize sI (sI (sI σ 88 x) 89 y) 90 z = τ at fr3 e1 e2 e3 ⊢
      refine go_aload_n dX10_readFrom_56 rfl ?_
      refine go_aload_n dX10_readFrom_57 rfl ?_
      refine go_iload_n dX10_readFrom_58 rfl ?_
      refine go_bipush (v := iI 24) dX10_readFrom_59 (by decide) ?_
      refine go_iadd dX10_readFrom_61 ?_
      refine go_iconst (v := iI 3) dX10_readFrom_62 (by decide) ?_
      refine go_isub dX10_readFrom_63 ?_
      rw [iI_add, iI_sub, show ((25 * m : Nat) : Int) + 24 - 3 = ((25 * m + 21 : Nat) : Int) by omega]
      refine go_iald dX10_readFrom_64 rfl (vp_iI (by omega)) ?_
      rw [cl_n _ (by omega), fr3.2 94 (by omega), show σ.1 94 (25 * m + 21) = iI (opn w) from hA.2.1]
      refine go_putI fX10_21 rfl dX10_readFrom_65 rfl rfl rfl ?_
      refine go_aload_n dX10_readFrom_68 rfl ?_
      refine go_aload_n dX10_readFrom_69 rfl ?_
      refine go_iload_n dX10_readFrom_70 rfl ?_
      refine go_bipush (v := iI 24) dX10_readFrom_71 (by decide) ?_
      refine go_iadd dX10_readFrom_73 ?_
      refine go_iconst (v := iI 2) dX10_readFrom_74 (by decide) ?_
      refine go_isub dX10_readFrom_75 ?_
      rw [iI_add, iI_sub, show ((25 * m : Nat) : Int) + 24 - 2 = ((25 * m + 22 : Nat) : Int) by omega]
      refine go_iald dX10_readFrom_76 rfl (vp_iI (by omega)) ?_
      rw [cl_n _ (by omega), sI_ne _ _ _ _ (by omega), fr3.2 94 (by omega), show σ.1 94 (25 * m + 22) = iI (ovr w) from hA.2.2.1]
      refine go_putI fX10_41 rfl dX10_readFrom_77 rfl rfl rfl ?_
      rw [sI_same, sI_sI]
      refine go_aload_n dX10_readFrom_80 rfl ?_
      refine go_aload_n dX10_readFrom_81 rfl ?_
      refine go_iload_n dX10_readFrom_82 rfl ?_
      refine go_bipush (v := iI 24) dX10_readFrom_83 (by decide) ?_
      refine go_iadd dX10_readFrom_85 ?_
      refine go_iconst (v := iI 1) dX10_readFrom_86 (by decide) ?_
      refine go_isub dX10_readFrom_87 ?_
      rw [iI_add, iI_sub, show ((25 * m : Nat) : Int) + 24 - 1 = ((25 * m + 23 : Nat) : Int) by omega]
      refine go_iald dX10_readFrom_88 rfl (vp_iI (by omega)) ?_
      rw [cl_n _ (by omega), sI_ne _ _ _ _ (by omega), fr3.2 94 (by omega), show σ.1 94 (25 * m + 23) = iI (dy w) from hA.2.2.2]
      refine go_putI fX10_44 rfl dX10_readFrom_89 rfl rfl rfl ?_
      rw [sI_same, sI_sI]
      refine go_vret rfl dX10_readFrom_92 ?_
      refine hK _ (fr3.sI (by omega) (by omega)) ⟨fun i hi => ⟨?_, ?_, ?_⟩, ?_, ?_, ?_⟩
      · rw [sI_ne _ _ _ _ (by omega), e1]; exact hx' i hi
      · rw [sI_ne _ _ _ _ (by omega), e2]; exact hy' i hi
      · rw [sI_ne _ _ _ _ (by omega), e3]; exact hz' i hi
      · rw [sI_same, upd_ne _ _ _ _ (by decide), upd_ne _ _ _ _ (by decide), upd_same]
      · rw [sI_same, upd_ne _ _ _ _ (by decide), upd_same]
      · rw [sI_same, upd_same]
    · exfalso
      rw [iI_add, show Int32.ofNat 1000 = iI 1000 from rfl, iI_le (by omega)] at h10
      omega

theorem ct_take0 {l : Launch} {D : va_G} {cA ad : Nat → Nat} {d : Nat} {σ : AS} {K : Option Value → AS → Prop} {w : WT} {b : Nat} {k : Nat} {v : Int32} (hR : RO σ) (hb : WB b) (hW : WC σ b w) (hm : opn w < 512) (hk : k < 9) (hK : ∀ τ, Fr b (b + 3) σ τ → WC τ b (setO w (opn w ||| 2 ^ k)) → K none τ) : Call l D cA ad d mX10_take [.ref b, .int (iI 0), .int (iI k), .int v] σ K := by
  refine call_go (by decide) (Nat.le_of_ble_eq_true rfl) (show Go l D cA ad d mX10_take 0 [.ref b, .int (iI 0), .int (iI k), .int v] [] σ K from ?_)
  refine go_iload_n dX10_take_0 rfl ?_
  refine go_if_ne (tgt := 19) dX10_take_1 (by decide) (fun h1 => ?_) (fun h1 => ?_)
  · exact absurd h1 (by decide)
  · refine go_aload_n dX10_take_4 rfl ?_
    refine go_dup dX10_take_5 rfl ?_
    refine go_getI fX10_21 dX10_take_6 hb.1 ?_
    refine go_iconst (v := iI 1) dX10_take_9 (by decide) ?_
    refine go_iload_n dX10_take_10 rfl ?_
    refine go_ishl dX10_take_11 ?_
    refine go_ior dX10_take_12 ?_
    rw [hW.2.1, b_or _ hm k hk]
    refine go_putI fX10_21 rfl dX10_take_13 hb.1 rfl rfl ?_
    refine go_goto (tgt := 66) dX10_take_16 (by decide) ?_
    refine go_vret rfl dX10_take_66 ?_
    exact hK _ (Fr.rf.sI (by omega) (by omega)) (WC_o hW)

theorem ct_take1 {l : Launch} {D : va_G} {cA ad : Nat → Nat} {d : Nat} {σ : AS} {K : Option Value → AS → Prop} {w : WT} {b : Nat} {k : Nat} {v : Int32} (hR : RO σ) (hb : WB b) (hW : WC σ b w) (hm : opn w < 512) (hk : k < 9) (hK : ∀ τ, Fr b (b + 3) σ τ → WC τ b (setO w (clrB (opn w) k)) → K none τ) : Call l D cA ad d mX10_take [.ref b, .int (iI 1), .int (iI k), .int v] σ K := by
  refine call_go (by decide) (Nat.le_of_ble_eq_true rfl) (show Go l D cA ad d mX10_take 0 [.ref b, .int (iI 1), .int (iI k), .int v] [] σ K from ?_)
  refine go_iload_n dX10_take_0 rfl ?_
  refine go_if_ne (tgt := 19) dX10_take_1 (by decide) (fun h1 => ?_) (fun h1 => ?_)
  · refine go_iload_n dX10_take_19 rfl ?_
    refine go_iconst (v := iI 1) dX10_take_20 (by decide) ?_
    refine go_icmp_ne (tgt := 41) dX10_take_21 (by decide) (fun h21 => ?_) (fun h21 => ?_)
    · exact absurd h21 (by decide)
    · refine go_aload_n dX10_take_24 rfl ?_
      refine go_dup dX10_take_25 rfl ?_
      refine go_getI fX10_21 dX10_take_26 hb.1 ?_
      refine go_iconst (v := iI 1) dX10_take_29 (by decide) ?_
      refine go_iload_n dX10_take_30 rfl ?_
      refine go_ishl dX10_take_31 ?_
      refine go_iconst (v := iI (-1)) dX10_take_32 (by decide) ?_
      refine go_ixor dX10_take_33 ?_
      refine go_iand dX10_take_34 ?_
      rw [hW.2.1, b_clr _ hm k hk]
      refine go_putI fX10_21 rfl dX10_take_35 hb.1 rfl rfl ?_
      refine go_goto (tgt := 66) dX10_take_38 (by decide) ?_
      refine go_vret rfl dX10_take_66 ?_
      exact hK _ (Fr.rf.sI (by omega) (by omega)) (WC_o hW)
  · exact absurd h1 (by decide)

theorem ct_take2 {l : Launch} {D : va_G} {cA ad : Nat → Nat} {d : Nat} {σ : AS} {K : Option Value → AS → Prop} {w : WT} {b : Nat} {u v : Int32} (hR : RO σ) (hb : WB b) (hW : WC σ b w) (hK : K none σ) : Call l D cA ad d mX10_take [.ref b, .int (iI 2), .int u, .int v] σ K := by
  refine call_go (by decide) (Nat.le_of_ble_eq_true rfl) (show Go l D cA ad d mX10_take 0 [.ref b, .int (iI 2), .int u, .int v] [] σ K from ?_)
  refine go_iload_n dX10_take_0 rfl ?_
  refine go_if_ne (tgt := 19) dX10_take_1 (by decide) (fun h1 => ?_) (fun h1 => ?_)
  · refine go_iload_n dX10_take_19 rfl ?_
    refine go_iconst (v := iI 1) dX10_take_20 (by decide) ?_
    refine go_icmp_ne (tgt := 41) dX10_take_21 (by decide) (fun h21 => ?_) (fun h21 => ?_)
    · refine go_iload_n dX10_take_41 rfl ?_
      refine go_iconst (v := iI 3) dX10_take_42 (by decide) ?_
      refine go_icmp_ne (tgt := 66) dX10_take_43 (by decide) (fun h43 => ?_) (fun h43 => ?_)
      · refine go_vret rfl dX10_take_66 ?_
        exact hK
      · exact absurd h43 (by decide)
    · exact absurd h21 (by decide)
  · exact absurd h1 (by decide)

theorem ct_take3 {l : Launch} {D : va_G} {cA ad : Nat → Nat} {d : Nat} {σ : AS} {K : Option Value → AS → Prop} {w : WT} {b : Nat} {p : Nat} {v : Int} (hR : RO σ) (hb : WB b) (hW : WC σ b w) (hp : p < 7) (hK : ∀ τ, Fr b (b + 3) σ τ → WC τ b (pourF w p v) → K none τ) : Call l D cA ad d mX10_take [.ref b, .int (iI 3), .int (iI p), .int (iI v)] σ K := by
  refine call_go (by decide) (Nat.le_of_ble_eq_true rfl) (show Go l D cA ad d mX10_take 0 [.ref b, .int (iI 3), .int (iI p), .int (iI v)] [] σ K from ?_)
  refine go_iload_n dX10_take_0 rfl ?_
  refine go_if_ne (tgt := 19) dX10_take_1 (by decide) (fun h1 => ?_) (fun h1 => ?_)
  · refine go_iload_n dX10_take_19 rfl ?_
    refine go_iconst (v := iI 1) dX10_take_20 (by decide) ?_
    refine go_icmp_ne (tgt := 41) dX10_take_21 (by decide) (fun h21 => ?_) (fun h21 => ?_)
    · refine go_iload_n dX10_take_41 rfl ?_
      refine go_iconst (v := iI 3) dX10_take_42 (by decide) ?_
      refine go_icmp_ne (tgt := 66) dX10_take_43 (by decide) (fun h43 => ?_) (fun h43 => ?_)
      · exact absurd h43 (by decide)
      · refine go_iload_n dX10_take_46 rfl ?_
        refine go_if_lt (tgt := 66) dX10_take_47 (by decide) (fun h47 => ?_) (fun h47 => ?_)
        · exfalso
          rw [iI_lt0 (by omega)] at h47
          omega
        · refine go_iload_n dX10_take_50 rfl ?_
          refine go_bipush (v := iI 7) dX10_take_51 (by decide) ?_
          refine go_icmp_ge (tgt := 66) dX10_take_53 (by decide) (fun h53 => ?_) (fun h53 => ?_)
          · exfalso
            rw [iI_le (by omega)] at h53
            omega
          · refine go_aload_n dX10_take_56 rfl ?_
            refine go_getR fX10_9 dX10_take_57 hb.1 (hR _ _ _ hb.2.2.2.2.1) ?_
            refine go_iload_n dX10_take_60 rfl ?_
            refine go_dup2 dX10_take_61 rfl rfl ?_
            refine go_iald dX10_take_62 hb.2.1 (vp_iI (by omega)) ?_
            rw [cl_n _ (by omega), (hW.1 p hp).1]
            refine go_iload_n dX10_take_63 rfl ?_
            refine go_iadd dX10_take_64 ?_
            rw [iI_add]
            refine go_iast dX10_take_65 hb.2.1 (vp_iI (by omega)) ?_
            refine go_vret rfl dX10_take_66 ?_
            rw [cl_n _ (by omega)]
            exact hK _ (Fr.rf.sI (by omega) (by omega)) (WC_p hW)
    · exact absurd h21 (by decide)
  · exact absurd h1 (by decide)

