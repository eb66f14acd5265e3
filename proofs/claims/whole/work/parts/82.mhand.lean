/-! the model: acts -/
theorem bitb_t {m k : Nat} : bitb m k = true ↔ m / 2 ^ k % 2 = 1 := by unfold bitb; exact beq_iff_eq
theorem bitb_f {m k : Nat} : bitb m k = false ↔ m / 2 ^ k % 2 = 0 := by
  unfold bitb
  rw [beq_eq_false_iff_ne]
  have := bit_01 m k
  omega
theorem b_xor : ∀ m, m < 512 → ∀ j, j < 9 → iI (m : Nat) ^^^ (iI 1 <<< (iI (j : Nat) &&& 31)) = iI ((m ^^^ 2 ^ j : Nat) : Int) := by decide +kernel
theorem xor_or : ∀ m, m < 512 → ∀ j, j < 9 → m / 2 ^ j % 2 = 0 → m ^^^ 2 ^ j = m ||| 2 ^ j := by decide +kernel
theorem xor_cl : ∀ m, m < 512 → ∀ j, j < 9 → m / 2 ^ j % 2 = 1 → m ^^^ 2 ^ j = clrB m j := by decide +kernel
theorem MI_set {σ : AS} {X : XS} {w : WT} {r : Nat → Int32} (hC : MI σ X) (hW : WR r w) (e : dy w = dy (xw X)) (hr : ∀ j, 24 ≤ j → r j = σ.1 124 j) : MI (sI σ 124 r) (setW X w) ∧ FD σ (sI σ 124 r) := by
  have hu : DU (xL X) σ (sI σ 124 r) := DU_s DU.rf (Or.inl rfl)
  refine ⟨hC.up hu ?_ ⟨?_, fun j a ha => ?_⟩, hu.1⟩
  · rw [sI_same]
    refine ⟨hW, by rw [hr 24 (by decide), e]; exact hC.2.2.1.2.1, fun i k h1 h2 h3 => ?_⟩
    rw [e] at h1 h2 ⊢
    rw [hr _ (by omega)]
    exact hC.2.2.1.2.2 i k h1 h2 h3
  · rw [sI_ne _ _ _ _ (by decide)]; exact hC.2.2.2.1.1
  · rw [sI_ne _ _ _ _ (by decide)]; exact hC.2.2.2.1.2 j a ha
theorem WR_p0 {r : Nat → Int32} {w : WT} {p : Nat} {v : Int} (hp : p < 7) (hW : WR r w) : WR (upd r (3 * p) (iI v)) (setF (wa w) p v, w.2) := WR_k (k := 0) (f := setF (wa w) p v) (by decide) hW (fun i hi => set3 (k := 0) (fun i hi => (hW.1 i hi).1) hi) (fun j hj => upd_ne _ _ _ _ (hj p hp))
theorem WR_p1 {r : Nat → Int32} {w : WT} {p : Nat} {v : Int} (hp : p < 7) (hW : WR r w) : WR (upd r (3 * p + 1) (iI v)) (wa w, setF (ca w) p v, w.2.2) := WR_k (k := 1) (f := setF (ca w) p v) (by decide) hW (fun i hi => set3 (k := 1) (fun i hi => (hW.1 i hi).2.1) hi) (fun j hj => upd_ne _ _ _ _ (hj p hp))
theorem WR_p2 {r : Nat → Int32} {w : WT} {p : Nat} {v : Int} (hp : p < 7) (hW : WR r w) : WR (upd r (3 * p + 2) (iI v)) (wa w, ca w, setF (pk w) p v, w.2.2.2) := WR_k (k := 2) (f := setF (pk w) p v) (by decide) hW (fun i hi => set3 (k := 2) (fun i hi => (hW.1 i hi).2.2) hi) (fun j hj => upd_ne _ _ _ _ (hj p hp))
theorem ct_dayM {l : Launch} {D : va_G} {cA ad : Nat → Nat} {d : Nat} {σ : AS} {K : Option Value → AS → Prop} {X : XS} {rain : Int} (hR : RO σ) (hK0 : XK X) (hC : MI σ X) (hr : 0 ≤ rain ∧ rain ≤ 1000) (hK : ∀ τ, FD σ τ → τ.2.1 111 = σ.2.1 111 → MI τ (dayX X rain) → K none τ) : Call l D cA ad (d + 35) mX12_goDay [.ref 111, .ref 124, .int (iI rain)] σ K :=
  ct_X12_goDay hK0.s rfl (Or.inl rfl) hK0.L (hC.ms hR) (WM_R.mpr hC.2.2.1.1) hK0.w hr (by have := hK0.d; omega) hC.2.2.1.2.1 (lgn_le _).1 (fun τ r2 n' off fr hM hW h59 hc hl => by
    obtain ⟨h1, h2⟩ := MI_day hC hK0 hr.1 fr hM.2.2.2.1 hM.2.2.2.2 hW h59 hc hl
    exact hK _ h2 (fr.2.2.1 111 (by decide)) h1)
theorem ct_canTurn1 {l : Launch} {D : va_G} {cA ad : Nat → Nat} {d : Nat} {σ : AS} {K : Option Value → AS → Prop} {s : PS} {w : WT} {c : Nat} {x : Int} (hR : RO σ) (hT : TwM σ s) (hS : TwK s) (hc : sh[c]? = some (1, 205)) (hW : WM σ c w) (hw : WK s w) (hx32 : -2147483648 ≤ x ∧ x < 2147483648) (hK1 : can0 s w x → K (some (.int (iI 1))) σ) (hK0 : ¬ can0 s w x → K (some (.int (iI 0))) σ) : Call l D cA ad (d + 1) mX12_canTurn [.ref 111, .ref c, .int (iI x), .int (iI 1)] σ K := by
  have hP7 := hS.1
  have hQ9 := hS.2.1
  have hdy := hw.2.2.2
  refine call_go (by decide) (Nat.le_of_ble_eq_true rfl) (show Go l D cA ad (d + 1) mX12_canTurn 0 [.ref 111, .ref c, .int (iI x), .int (iI 1)] [] σ K from ?_)
  refine go_aload_n dX12_canTurn_0 rfl ?_
  refine go_iload_n dX12_canTurn_1 rfl ?_
  refine go_callV (as := [_]) wX12_369 dX12_canTurn_2 rfl rfl rfl rfl (Nat.le_of_ble_eq_true rfl) (ct_isPipe2 hx32 hT hS (fun n hn hnl => ?_) (fun hx => ?_))
  · refine go_if_eq (tgt := 24) dX12_canTurn_5 (by decide) (fun h5 => ?_) (fun h5 => ?_)
    · exact absurd h5 (by decide)
    · subst hn
      have hbit := bit_01 (opn w) n
      refine go_aload_n dX12_canTurn_8 rfl ?_
      refine go_bipush (v := iI 21) dX12_canTurn_9 (by decide) ?_
      refine go_iald dX12_canTurn_11 hc (vp_iI (by decide)) ?_
      rw [show (iI 21).toNatClampNeg = 21 by decide, hW.2.1]
      refine go_iload_n dX12_canTurn_12 rfl ?_
      refine go_callS (as := [_, _]) wX12_229 dX12_canTurn_13 rfl rfl (Nat.le_of_ble_eq_true rfl) (ct_X12_has (pw512 hS hw) (by omega) ?_)
      refine go_iload_n dX12_canTurn_16 rfl ?_
      refine go_icmp_eq (tgt := 24) dX12_canTurn_17 (by decide) (fun h17 => ?_) (fun h17 => ?_)
      · rw [iI_eq (by omega)] at h17
        refine go_iconst (v := iI 0) dX12_canTurn_24 (by decide) ?_
        refine go_iret rfl rfl dX12_canTurn_25 ?_
        exact hK0 (fun q => by have := q.2.2; rw [Int.toNat_natCast, bitb_f] at this; omega)
      · rw [iI_eq (by omega)] at h17
        refine go_iconst (v := iI 1) dX12_canTurn_20 (by decide) ?_
        refine go_goto (tgt := 25) dX12_canTurn_21 (by decide) ?_
        refine go_iret rfl rfl dX12_canTurn_25 ?_
        exact hK1 ⟨by omega, by omega, by rw [Int.toNat_natCast, bitb_f]; omega⟩
  · refine go_if_eq (tgt := 24) dX12_canTurn_5 (by decide) (fun h5 => ?_) (fun h5 => ?_)
    · refine go_iconst (v := iI 0) dX12_canTurn_24 (by decide) ?_
      refine go_iret rfl rfl dX12_canTurn_25 ?_
      exact hK0 (fun q => hx ⟨q.1, q.2.1⟩)
    · exact absurd h5 (by decide)

theorem ct_canTurn0 {l : Launch} {D : va_G} {cA ad : Nat → Nat} {d : Nat} {σ : AS} {K : Option Value → AS → Prop} {s : PS} {w : WT} {c : Nat} {x : Int} (hR : RO σ) (hT : TwM σ s) (hS : TwK s) (hc : sh[c]? = some (1, 205)) (hW : WM σ c w) (hw : WK s w) (hx32 : -2147483648 ≤ x ∧ x < 2147483648) (hK1 : can1 s w x → K (some (.int (iI 1))) σ) (hK0 : ¬ can1 s w x → K (some (.int (iI 0))) σ) : Call l D cA ad (d + 1) mX12_canTurn [.ref 111, .ref c, .int (iI x), .int (iI 0)] σ K := by
  have hP7 := hS.1
  have hQ9 := hS.2.1
  have hdy := hw.2.2.2
  refine call_go (by decide) (Nat.le_of_ble_eq_true rfl) (show Go l D cA ad (d + 1) mX12_canTurn 0 [.ref 111, .ref c, .int (iI x), .int (iI 0)] [] σ K from ?_)
  refine go_aload_n dX12_canTurn_0 rfl ?_
  refine go_iload_n dX12_canTurn_1 rfl ?_
  refine go_callV (as := [_]) wX12_369 dX12_canTurn_2 rfl rfl rfl rfl (Nat.le_of_ble_eq_true rfl) (ct_isPipe2 hx32 hT hS (fun n hn hnl => ?_) (fun hx => ?_))
  · refine go_if_eq (tgt := 24) dX12_canTurn_5 (by decide) (fun h5 => ?_) (fun h5 => ?_)
    · exact absurd h5 (by decide)
    · subst hn
      have hbit := bit_01 (opn w) n
      refine go_aload_n dX12_canTurn_8 rfl ?_
      refine go_bipush (v := iI 21) dX12_canTurn_9 (by decide) ?_
      refine go_iald dX12_canTurn_11 hc (vp_iI (by decide)) ?_
      rw [show (iI 21).toNatClampNeg = 21 by decide, hW.2.1]
      refine go_iload_n dX12_canTurn_12 rfl ?_
      refine go_callS (as := [_, _]) wX12_229 dX12_canTurn_13 rfl rfl (Nat.le_of_ble_eq_true rfl) (ct_X12_has (pw512 hS hw) (by omega) ?_)
      refine go_iload_n dX12_canTurn_16 rfl ?_
      refine go_icmp_eq (tgt := 24) dX12_canTurn_17 (by decide) (fun h17 => ?_) (fun h17 => ?_)
      · rw [iI_eq (by omega)] at h17
        refine go_iconst (v := iI 0) dX12_canTurn_24 (by decide) ?_
        refine go_iret rfl rfl dX12_canTurn_25 ?_
        exact hK0 (fun q => by have := q.2.2; rw [Int.toNat_natCast, bitb_t] at this; omega)
      · rw [iI_eq (by omega)] at h17
        refine go_iconst (v := iI 1) dX12_canTurn_20 (by decide) ?_
        refine go_goto (tgt := 25) dX12_canTurn_21 (by decide) ?_
        refine go_iret rfl rfl dX12_canTurn_25 ?_
        exact hK1 ⟨by omega, by omega, by rw [Int.toNat_natCast, bitb_t]; omega⟩
  · refine go_if_eq (tgt := 24) dX12_canTurn_5 (by decide) (fun h5 => ?_) (fun h5 => ?_)
    · refine go_iconst (v := iI 0) dX12_canTurn_24 (by decide) ?_
      refine go_iret rfl rfl dX12_canTurn_25 ?_
      exact hK0 (fun q => hx ⟨q.1, q.2.1⟩)
    · exact absurd h5 (by decide)

theorem ct_X12_canPour {l : Launch} {D : va_G} {cA ad : Nat → Nat} {d : Nat} {σ : AS} {K : Option Value → AS → Prop} {s : PS} {w : WT} {c : Nat} {x y : Int} (hR : RO σ) (hT : TwM σ s) (hS : TwK s) (hc : sh[c]? = some (1, 205)) (hW : WM σ c w) (hw : WK s w) (hx32 : -2147483648 ≤ x ∧ x < 2147483648) (hy32 : -2147483648 ≤ y ∧ y < 2147483648) (hK1 : y ≤ 9 ∧ can3 s w x y → K (some (.int (iI 1))) σ) (hK0 : ¬ (y ≤ 9 ∧ can3 s w x y) → K (some (.int (iI 0))) σ) : Call l D cA ad (d + 1) mX12_canPour [.ref 111, .ref c, .int (iI x), .int (iI y)] σ K := by
  have hP7 := hS.1
  have hQ9 := hS.2.1
  have hdy := hw.2.2.2
  refine call_go (by decide) (Nat.le_of_ble_eq_true rfl) (show Go l D cA ad (d + 1) mX12_canPour 0 [.ref 111, .ref c, .int (iI x), .int (iI y)] [] σ K from ?_)
  refine go_aload_n dX12_canPour_0 rfl ?_
  refine go_iload_n dX12_canPour_1 rfl ?_
  refine go_callV (as := [_]) wX12_364 dX12_canPour_2 rfl rfl rfl rfl (Nat.le_of_ble_eq_true rfl) (ct_isPond2 hx32 hT hS (fun n hn hnl => ?_) (fun hx => ?_))
  · refine go_if_eq (tgt := 40) dX12_canPour_5 (by decide) (fun h5 => ?_) (fun h5 => ?_)
    · exact absurd h5 (by decide)
    · subst hn
      have h7 := wk7 hS hw n
      have hpi := hS.2.2.2.1 n hnl
      unfold PdK at hpi
      refine go_iload_n dX12_canPour_8 rfl ?_
      refine go_i2l dX12_canPour_9 ?_
      rw [i2l_iI (by omega)]
      refine go_lconst (v := 1) dX12_canPour_10 (by decide) ?_
      refine go_ldc2 lX12_367 dX12_canPour_11 ?_
      refine go_callS (as := [_, _, _]) wX12_217 dX12_canPour_14 rfl rfl (Nat.le_of_ble_eq_true rfl) (ct_isIn2 (x := 1) (y := 9) (by decide) (by decide) (by omega) (fun hi => ?_) (fun hi => ?_))
      · refine go_if_eq (tgt := 40) dX12_canPour_17 (by decide) (fun h17 => ?_) (fun h17 => ?_)
        · exact absurd h17 (by decide)
        · refine go_aload_n dX12_canPour_20 rfl ?_
          refine go_iload_n dX12_canPour_21 rfl ?_
          refine go_callS (as := [_, _]) wX12_312 dX12_canPour_22 rfl rfl (Nat.le_of_ble_eq_true rfl) (ct_X12_water hc hW (by omega) ?_)
          refine go_iload_n dX12_canPour_25 rfl ?_
          refine go_iadd dX12_canPour_26 ?_
          rw [iI_add]
          refine go_aload_n dX12_canPour_27 rfl ?_
          refine go_iload_n dX12_canPour_28 rfl ?_
          refine go_iconst (v := iI 1) dX12_canPour_29 (by decide) ?_
          refine go_callV (as := [_, _]) wX12_300 dX12_canPour_30 rfl rfl rfl rfl (Nat.le_of_ble_eq_true rfl) (ct_X12_told (j := 1) hR hT hS.1 hnl (by decide) ?_)
          refine go_icmp_gt (tgt := 40) dX12_canPour_33 (by decide) (fun h33 => ?_) (fun h33 => ?_)
          · rw [iI_lt (by omega)] at h33
            refine go_iconst (v := iI 0) dX12_canPour_40 (by decide) ?_
            refine go_iret rfl rfl dX12_canPour_41 ?_
            exact hK0 (fun q => by have := q.2.2.2; rw [Int.toNat_natCast] at this; omega)
          · rw [iI_lt (by omega)] at h33
            refine go_iconst (v := iI 1) dX12_canPour_36 (by decide) ?_
            refine go_goto (tgt := 41) dX12_canPour_37 (by decide) ?_
            refine go_iret rfl rfl dX12_canPour_41 ?_
            exact hK1 ⟨by omega, by omega, by omega, by omega, by rw [Int.toNat_natCast]; omega⟩
      · refine go_if_eq (tgt := 40) dX12_canPour_17 (by decide) (fun h17 => ?_) (fun h17 => ?_)
        · refine go_iconst (v := iI 0) dX12_canPour_40 (by decide) ?_
          refine go_iret rfl rfl dX12_canPour_41 ?_
          exact hK0 (fun q => by omega)
        · exact absurd h17 (by decide)
  · refine go_if_eq (tgt := 40) dX12_canPour_5 (by decide) (fun h5 => ?_) (fun h5 => ?_)
    · refine go_iconst (v := iI 0) dX12_canPour_40 (by decide) ?_
      refine go_iret rfl rfl dX12_canPour_41 ?_
      exact hK0 (fun q => by omega)
    · exact absurd h5 (by decide)

theorem ct_X12_mayPass {l : Launch} {D : va_G} {cA ad : Nat → Nat} {d : Nat} {σ : AS} {K : Option Value → AS → Prop} {s : PS} {w : WT} {c : Nat} {x y : Int} (hR : RO σ) (hT : TwM σ s) (hS : TwK s) (hc : sh[c]? = some (1, 205)) (hW : WM σ c w) (hw : WK s w) (hx32 : -2147483648 ≤ x ∧ x < 2147483648) (hy : 1 ≤ y ∧ y ≤ 100) (hK1 : x ≤ y ∧ can2 s w x → K (some (.int (iI 1))) σ) (hK0 : ¬ (x ≤ y ∧ can2 s w x) → K (some (.int (iI 0))) σ) : Call l D cA ad (d + 1) mX12_mayPass [.ref 111, .ref c, .int (iI x), .int (iI y)] σ K := by
  have hP7 := hS.1
  have hQ9 := hS.2.1
  have hdy := hw.2.2.2
  refine call_go (by decide) (Nat.le_of_ble_eq_true rfl) (show Go l D cA ad (d + 1) mX12_mayPass 0 [.ref 111, .ref c, .int (iI x), .int (iI y)] [] σ K from ?_)
  refine go_aload_n dX12_mayPass_0 rfl ?_
  refine go_getI fX12_294 dX12_mayPass_1 rfl ?_
  refine go_if_le (tgt := 34) dX12_mayPass_4 (by decide) (fun h4 => ?_) (fun h4 => ?_)
  · rw [hT.1, iI_le0 (by omega)] at h4
    refine go_iconst (v := iI 0) dX12_mayPass_34 (by decide) ?_
    refine go_iret rfl rfl dX12_mayPass_35 ?_
    exact hK0 (fun q => by omega)
  · rw [hT.1, iI_le0 (by omega)] at h4
    refine go_iload_n dX12_mayPass_7 rfl ?_
    refine go_i2l dX12_mayPass_8 ?_
    rw [i2l_iI (by omega)]
    refine go_lconst (v := 1) dX12_mayPass_9 (by decide) ?_
    refine go_iload_n dX12_mayPass_10 rfl ?_
    refine go_i2l dX12_mayPass_11 ?_
    rw [i2l_iI (by omega)]
    refine go_callS (as := [_, _, _]) wX12_217 dX12_mayPass_12 rfl rfl (Nat.le_of_ble_eq_true rfl) (ct_isIn2 (x := 1) (y := y) (by decide) (lL_toInt (by omega)) hx32 (fun hi => ?_) (fun hi => ?_))
    · refine go_if_eq (tgt := 34) dX12_mayPass_15 (by decide) (fun h15 => ?_) (fun h15 => ?_)
      · exact absurd h15 (by decide)
      · refine go_aload_n dX12_mayPass_18 rfl ?_
        refine go_bipush (v := iI 23) dX12_mayPass_19 (by decide) ?_
        refine go_iald dX12_mayPass_21 hc (vp_iI (by decide)) ?_
        rw [show (iI 23).toNatClampNeg = 23 by decide, hW.2.2.2]
        refine go_iload_n dX12_mayPass_22 rfl ?_
        refine go_iadd dX12_mayPass_23 ?_
        rw [iI_add]
        refine go_sipush (v := iI 9999) dX12_mayPass_24 (by decide) ?_
        refine go_icmp_gt (tgt := 34) dX12_mayPass_27 (by decide) (fun h27 => ?_) (fun h27 => ?_)
        · rw [iI_lt (by omega)] at h27
          refine go_iconst (v := iI 0) dX12_mayPass_34 (by decide) ?_
          refine go_iret rfl rfl dX12_mayPass_35 ?_
          exact hK0 (fun q => by omega)
        · rw [iI_lt (by omega)] at h27
          refine go_iconst (v := iI 1) dX12_mayPass_30 (by decide) ?_
          refine go_goto (tgt := 35) dX12_mayPass_31 (by decide) ?_
          refine go_iret rfl rfl dX12_mayPass_35 ?_
          exact hK1 ⟨by omega, by omega, by omega, by omega⟩
    · refine go_if_eq (tgt := 34) dX12_mayPass_15 (by decide) (fun h15 => ?_) (fun h15 => ?_)
      · refine go_iconst (v := iI 0) dX12_mayPass_34 (by decide) ?_
        refine go_iret rfl rfl dX12_mayPass_35 ?_
        exact hK0 (fun q => by omega)
      · exact absurd h15 (by decide)

theorem ct_mkey1 {l : Launch} {D : va_G} {cA ad : Nat → Nat} {d : Nat} {σ : AS} {K : Option Value → AS → Prop} {X : XS} {a : Int} (hR : RO σ) (hK0 : XK X) (hC : MI σ X) (ha32 : -2147483648 ≤ a ∧ a < 2147483648) (hK : ∀ τ, FD σ τ → MI τ (keyX X a true) → K (some (.int (iI (keyA X a true)))) τ) : Call l D cA ad (d + 2) mX12_key [.ref 111, .int (iI a), .int (iI 1)] σ K := by
  have hP7 := hK0.s.1
  have hQ9 := hK0.s.2.1
  refine call_go (by decide) (Nat.le_of_ble_eq_true rfl) (show Go l D cA ad (d + 2) mX12_key 0 [.ref 111, .int (iI a), .int (iI 1)] [] σ K from ?_)
  refine go_aload_n dX12_key_0 rfl ?_
  refine go_iconst (v := iI 0) dX12_key_1 (by decide) ?_
  refine go_putI fX12_96 rfl dX12_key_2 rfl rfl rfl ?_
  have hq : DF (xL X) σ (sI σ 111 (upd (σ.1 111) 0 (iI 0))) := DF_f0 DF.rf
  have hR0 := hq.RO hR
  have hC0 := hC.q hK0 hq
  generalize sI σ 111 (upd (σ.1 111) 0 (iI 0)) = τ at hq hR0 hC0 ⊢
  refine go_aload_n dX12_key_5 rfl ?_
  refine go_aload_n dX12_key_6 rfl ?_
  refine go_getR fX12_61 dX12_key_7 rfl (hR0 _ _ _ rfl) ?_
  refine go_iload_n dX12_key_10 rfl ?_
  refine go_iload_n dX12_key_11 rfl ?_
  refine go_callV (as := [_, _, _]) wX12_377 dX12_key_12 rfl rfl rfl rfl (Nat.le_of_ble_eq_true rfl) (ct_canTurn1 hR0 hC0.2.1 hK0.s rfl (WM_R.mpr hC0.2.2.1.1) hK0.w ha32 (fun hc => ?_) (fun hc => ?_))
  · refine go_if_ne (tgt := 20) dX12_key_15 (by decide) (fun h15 => ?_) (fun h15 => ?_)
    · obtain ⟨n, rfl⟩ : ∃ n : Nat, a = n := ⟨a.toNat, by have := hc.1; omega⟩
      have hnl := hc.2.1
      have hb := bitb_f.mp hc.2.2
      rw [Int.toNat_natCast] at hb
      refine go_aload_n dX12_key_20 rfl ?_
      refine go_callV (as := []) wX12_381 dX12_key_21 rfl rfl rfl rfl (Nat.le_of_ble_eq_true rfl) (ct_X12_remember hR0 hK0 hC0 (fun ρ fd ef hC1 => ?_))
      refine go_aload_n dX12_key_24 rfl ?_
      refine go_getR fX12_61 dX12_key_25 rfl (fd.RO hR0 _ _ _ rfl) ?_
      refine go_bipush (v := iI 21) dX12_key_28 (by decide) ?_
      refine go_dup2 dX12_key_30 rfl rfl ?_
      refine go_iald dX12_key_31 rfl (vp_iI (by decide)) ?_
      rw [show (iI 21).toNatClampNeg = 21 by decide, hC1.2.2.1.1.2.1, show xw (remX X) = xw X from rfl]
      refine go_iconst (v := iI 1) dX12_key_32 (by decide) ?_
      refine go_iload_n dX12_key_33 rfl ?_
      refine go_ishl dX12_key_34 ?_
      refine go_ixor dX12_key_35 ?_
      rw [b_xor _ (pw512 hK0.s hK0.w) n (by omega)]
      rw [xor_or _ (pw512 hK0.s hK0.w) n (by omega) hb]
      refine go_iast dX12_key_36 rfl (vp_iI (by decide)) ?_
      rw [show (iI 21).toNatClampNeg = 21 by decide]
      refine go_iconst (v := iI 1) dX12_key_37 (by decide) ?_
      refine go_iret rfl rfl dX12_key_38 ?_
      have e1 : keyX X n true = opX X n := by unfold keyX; rw [if_pos rfl, if_pos hc]
      have e2 : keyA X n true = 1 := by unfold keyA; rw [if_pos rfl, if_pos hc]
      rw [e1, e2] at hK
      obtain ⟨h1, h2⟩ := MI_set (w := setO (xw X) (opn (xw X) ||| 2 ^ n)) hC1 (WR_o hC1.2.2.1.1) rfl (fun j hj => upd_ne _ _ _ _ (by omega))
      exact hK _ ((hq.1.tr fd).tr h2) h1
    · exact absurd h15 (by decide)
  · refine go_if_ne (tgt := 20) dX12_key_15 (by decide) (fun h15 => ?_) (fun h15 => ?_)
    · exact absurd h15 (by decide)
    · refine go_iconst (v := iI 0) dX12_key_18 (by decide) ?_
      refine go_iret rfl rfl dX12_key_19 ?_
      have e1 : keyX X a true = X := by unfold keyX; rw [if_pos rfl, if_neg hc]
      have e2 : keyA X a true = 0 := by unfold keyA; rw [if_pos rfl, if_neg hc]
      rw [e1, e2] at hK
      exact hK τ hq.1 hC0

theorem ct_mkey0 {l : Launch} {D : va_G} {cA ad : Nat → Nat} {d : Nat} {σ : AS} {K : Option Value → AS → Prop} {X : XS} {a : Int} (hR : RO σ) (hK0 : XK X) (hC : MI σ X) (ha32 : -2147483648 ≤ a ∧ a < 2147483648) (hK : ∀ τ, FD σ τ → MI τ (keyX X a false) → K (some (.int (iI (keyA X a false)))) τ) : Call l D cA ad (d + 2) mX12_key [.ref 111, .int (iI a), .int (iI 0)] σ K := by
  have hP7 := hK0.s.1
  have hQ9 := hK0.s.2.1
  refine call_go (by decide) (Nat.le_of_ble_eq_true rfl) (show Go l D cA ad (d + 2) mX12_key 0 [.ref 111, .int (iI a), .int (iI 0)] [] σ K from ?_)
  refine go_aload_n dX12_key_0 rfl ?_
  refine go_iconst (v := iI 0) dX12_key_1 (by decide) ?_
  refine go_putI fX12_96 rfl dX12_key_2 rfl rfl rfl ?_
  have hq : DF (xL X) σ (sI σ 111 (upd (σ.1 111) 0 (iI 0))) := DF_f0 DF.rf
  have hR0 := hq.RO hR
  have hC0 := hC.q hK0 hq
  generalize sI σ 111 (upd (σ.1 111) 0 (iI 0)) = τ at hq hR0 hC0 ⊢
  refine go_aload_n dX12_key_5 rfl ?_
  refine go_aload_n dX12_key_6 rfl ?_
  refine go_getR fX12_61 dX12_key_7 rfl (hR0 _ _ _ rfl) ?_
  refine go_iload_n dX12_key_10 rfl ?_
  refine go_iload_n dX12_key_11 rfl ?_
  refine go_callV (as := [_, _, _]) wX12_377 dX12_key_12 rfl rfl rfl rfl (Nat.le_of_ble_eq_true rfl) (ct_canTurn0 hR0 hC0.2.1 hK0.s rfl (WM_R.mpr hC0.2.2.1.1) hK0.w ha32 (fun hc => ?_) (fun hc => ?_))
  · refine go_if_ne (tgt := 20) dX12_key_15 (by decide) (fun h15 => ?_) (fun h15 => ?_)
    · obtain ⟨n, rfl⟩ : ∃ n : Nat, a = n := ⟨a.toNat, by have := hc.1; omega⟩
      have hnl := hc.2.1
      have hb := bitb_t.mp hc.2.2
      rw [Int.toNat_natCast] at hb
      refine go_aload_n dX12_key_20 rfl ?_
      refine go_callV (as := []) wX12_381 dX12_key_21 rfl rfl rfl rfl (Nat.le_of_ble_eq_true rfl) (ct_X12_remember hR0 hK0 hC0 (fun ρ fd ef hC1 => ?_))
      refine go_aload_n dX12_key_24 rfl ?_
      refine go_getR fX12_61 dX12_key_25 rfl (fd.RO hR0 _ _ _ rfl) ?_
      refine go_bipush (v := iI 21) dX12_key_28 (by decide) ?_
      refine go_dup2 dX12_key_30 rfl rfl ?_
      refine go_iald dX12_key_31 rfl (vp_iI (by decide)) ?_
      rw [show (iI 21).toNatClampNeg = 21 by decide, hC1.2.2.1.1.2.1, show xw (remX X) = xw X from rfl]
      refine go_iconst (v := iI 1) dX12_key_32 (by decide) ?_
      refine go_iload_n dX12_key_33 rfl ?_
      refine go_ishl dX12_key_34 ?_
      refine go_ixor dX12_key_35 ?_
      rw [b_xor _ (pw512 hK0.s hK0.w) n (by omega)]
      rw [xor_cl _ (pw512 hK0.s hK0.w) n (by omega) hb]
      refine go_iast dX12_key_36 rfl (vp_iI (by decide)) ?_
      rw [show (iI 21).toNatClampNeg = 21 by decide]
      refine go_iconst (v := iI 1) dX12_key_37 (by decide) ?_
      refine go_iret rfl rfl dX12_key_38 ?_
      have e1 : keyX X n false = csX X n := by unfold keyX; rw [if_neg (by decide), if_pos hc]
      have e2 : keyA X n false = 1 := by unfold keyA; rw [if_neg (by decide), if_pos hc]
      rw [e1, e2] at hK
      obtain ⟨h1, h2⟩ := MI_set (w := setO (xw X) (clrB (opn (xw X)) n)) hC1 (WR_o hC1.2.2.1.1) rfl (fun j hj => upd_ne _ _ _ _ (by omega))
      exact hK _ ((hq.1.tr fd).tr h2) h1
    · exact absurd h15 (by decide)
  · refine go_if_ne (tgt := 20) dX12_key_15 (by decide) (fun h15 => ?_) (fun h15 => ?_)
    · exact absurd h15 (by decide)
    · refine go_iconst (v := iI 0) dX12_key_18 (by decide) ?_
      refine go_iret rfl rfl dX12_key_19 ?_
      have e1 : keyX X a false = X := by unfold keyX; rw [if_neg (by decide), if_neg hc]
      have e2 : keyA X a false = 0 := by unfold keyA; rw [if_neg (by decide), if_neg hc]
      rw [e1, e2] at hK
      exact hK τ hq.1 hC0

theorem ct_X12_pour {l : Launch} {D : va_G} {cA ad : Nat → Nat} {d : Nat} {σ : AS} {K : Option Value → AS → Prop} {X : XS} {a b : Int} (hR : RO σ) (hK0 : XK X) (hC : MI σ X) (ha32 : -2147483648 ≤ a ∧ a < 2147483648) (hb32 : -2147483648 ≤ b ∧ b < 2147483648) (hK : ∀ τ, FD σ τ → MI τ (pourX X a b) → K (some (.int (iI (pourA X a b)))) τ) : Call l D cA ad (d + 2) mX12_pour [.ref 111, .int (iI a), .int (iI b)] σ K := by
  have hP7 := hK0.s.1
  have hQ9 := hK0.s.2.1
  refine call_go (by decide) (Nat.le_of_ble_eq_true rfl) (show Go l D cA ad (d + 2) mX12_pour 0 [.ref 111, .int (iI a), .int (iI b)] [] σ K from ?_)
  refine go_aload_n dX12_pour_0 rfl ?_
  refine go_iconst (v := iI 0) dX12_pour_1 (by decide) ?_
  refine go_putI fX12_96 rfl dX12_pour_2 rfl rfl rfl ?_
  have hq : DF (xL X) σ (sI σ 111 (upd (σ.1 111) 0 (iI 0))) := DF_f0 DF.rf
  have hR0 := hq.RO hR
  have hC0 := hC.q hK0 hq
  generalize sI σ 111 (upd (σ.1 111) 0 (iI 0)) = τ at hq hR0 hC0 ⊢
  refine go_aload_n dX12_pour_5 rfl ?_
  refine go_aload_n dX12_pour_6 rfl ?_
  refine go_getR fX12_61 dX12_pour_7 rfl (hR0 _ _ _ rfl) ?_
  refine go_iload_n dX12_pour_10 rfl ?_
  refine go_iload_n dX12_pour_11 rfl ?_
  refine go_callV (as := [_, _, _]) wX12_384 dX12_pour_12 rfl rfl rfl rfl (Nat.le_of_ble_eq_true rfl) (ct_X12_canPour hR0 hC0.2.1 hK0.s rfl (WM_R.mpr hC0.2.2.1.1) hK0.w ha32 hb32 (fun hc => ?_) (fun hc => ?_))
  · refine go_if_ne (tgt := 20) dX12_pour_15 (by decide) (fun h15 => ?_) (fun h15 => ?_)
    · obtain ⟨n, rfl⟩ : ∃ n : Nat, a = n := ⟨a.toNat, by omega⟩
      have hnl := hc.2.2.1
      refine go_aload_n dX12_pour_20 rfl ?_
      refine go_callV (as := []) wX12_381 dX12_pour_21 rfl rfl rfl rfl (Nat.le_of_ble_eq_true rfl) (ct_X12_remember hR0 hK0 hC0 (fun ρ fd ef hC1 => ?_))
      refine go_aload_n dX12_pour_24 rfl ?_
      refine go_getR fX12_61 dX12_pour_25 rfl (fd.RO hR0 _ _ _ rfl) ?_
      refine go_iconst (v := iI 3) dX12_pour_28 (by decide) ?_
      refine go_iload_n dX12_pour_29 rfl ?_
      refine go_imul dX12_pour_30 ?_
      refine go_iconst (v := iI 0) dX12_pour_31 (by decide) ?_
      refine go_iadd dX12_pour_32 ?_
      rw [iI_mul, iI_add, show 3 * (n : Int) + 0 = ((3 * n : Nat) : Int) by omega]
      refine go_dup2 dX12_pour_33 rfl rfl ?_
      refine go_iald dX12_pour_34 rfl (vp_iI (by omega)) ?_
      rw [cl_n _ (by omega)]
      rw [(hC1.2.2.1.1.1 n (by omega)).1]
      refine go_iload_n dX12_pour_35 rfl ?_
      refine go_iadd dX12_pour_36 ?_
      rw [iI_add]
      refine go_iast dX12_pour_37 rfl (vp_iI (by omega)) ?_
      rw [cl_n _ (by omega)]
      rw [show wa (xw (remX X)) n = wa (xw X) n from rfl]
      refine go_aload_n dX12_pour_38 rfl ?_
      refine go_getR fX12_61 dX12_pour_39 rfl (fd.RO hR0 _ _ _ rfl) ?_
      refine go_iload_n dX12_pour_42 rfl ?_
      refine go_callS (as := [_, _]) wX12_312 dX12_pour_43 rfl rfl (Nat.le_of_ble_eq_true rfl) (ct_X12_water (w := pourF (xw X) n b) rfl (WM_R.mpr (by rw [sI_same]; exact WR_p0 (by omega) hC1.2.2.1.1)) (by omega) ?_)
      refine go_iret rfl rfl dX12_pour_46 ?_
      have e1 : pourX X n b = poX X n b := by unfold pourX; rw [if_pos hc]
      have e2 : pourA X n b = wa (pourF (xw X) n b) n := by unfold pourA; rw [if_pos hc]; exact setF_a.symm
      rw [e1, e2] at hK
      obtain ⟨h1, h2⟩ := MI_set (w := pourF (xw X) n b) hC1 (WR_p0 (by omega) hC1.2.2.1.1) rfl (fun j hj => upd_ne _ _ _ _ (by omega))
      exact hK _ ((hq.1.tr fd).tr h2) h1
    · exact absurd h15 (by decide)
  · refine go_if_ne (tgt := 20) dX12_pour_15 (by decide) (fun h15 => ?_) (fun h15 => ?_)
    · exact absurd h15 (by decide)
    · refine go_iconst (v := iI (-1)) dX12_pour_18 (by decide) ?_
      refine go_iret rfl rfl dX12_pour_19 ?_
      have e1 : pourX X a b = X := by unfold pourX; rw [if_neg hc]
      have e2 : pourA X a b = -1 := by unfold pourA; rw [if_neg hc]
      rw [e1, e2] at hK
      exact hK τ hq.1 hC0

theorem md23 {l : Launch} {D : va_G} {cA ad : Nat → Nat} {d : Nat} {σ : AS} {K : Option Value → AS → Prop} {X1 : XS} {n : Nat} (hn : n ≤ 9999) (hR : RO σ) (hK : ∀ τ, FD σ τ → MI τ X1 → K (some (.int (iI (dy (xw X1))))) τ) : ∀ (r i : Nat) (Y : XS) (τ : AS), r + i = n → FD σ τ → MI τ Y → XK Y → dy (xw Y) + r ≤ 9999 → daysX r Y = X1 → Go l D cA ad (d + 36) mX12_days 23 [.ref 111, .int (iI n), .int (iI i)] [] τ K := by
  intro r
  induction r using Nat.strongRecOn with
  | ind r ih =>
  intro i Y τ hri hf hCY hKY hd hY
  refine go_iload_n dX12_days_23 rfl ?_
  refine go_iload_n dX12_days_24 rfl ?_
  refine go_icmp_ge (tgt := 52) dX12_days_25 (by decide) (fun h25 => ?_) (fun h25 => ?_)
  · rw [iI_le (by omega)] at h25
    refine go_aload_n dX12_days_52 rfl ?_
    refine go_getR fX12_61 dX12_days_53 rfl (hf.RO hR _ _ _ rfl) ?_
    refine go_bipush (v := iI 23) dX12_days_56 (by decide) ?_
    refine go_iald dX12_days_58 rfl (vp_iI (by decide)) ?_
    rw [show (iI 23).toNatClampNeg = 23 by decide, hCY.2.2.1.1.2.2.2]
    refine go_iret rfl rfl dX12_days_59 ?_
    obtain rfl : r = 0 := by omega
    have e1 : Y = X1 := hY
    subst e1
    exact hK τ hf hCY
  · rw [iI_le (by omega)] at h25
    refine go_aload_n dX12_days_28 rfl ?_
    refine go_callV (as := []) wX12_381 dX12_days_29 rfl rfl rfl rfl (Nat.le_of_ble_eq_true rfl) (ct_X12_remember (hf.RO hR) hKY hCY (fun ρ fc ef hC1 => ?_))
    refine go_aload_n dX12_days_32 rfl ?_
    refine go_aload_n dX12_days_33 rfl ?_
    refine go_getR fX12_61 dX12_days_34 rfl (fc.RO (hf.RO hR) _ _ _ rfl) ?_
    refine go_aload_n dX12_days_37 rfl ?_
    refine go_getR fX12_37 dX12_days_38 rfl (fc.RO (hf.RO hR) _ _ _ rfl) ?_
    refine go_iconst (v := iI 0) dX12_days_41 (by decide) ?_
    refine go_iald dX12_days_42 rfl (vp_iI (by decide)) ?_
    rw [cl_0, hC1.2.1.2.2.1 0 (by decide), show skv (xs (remX Y)) 0 = skv (xs Y) 0 from rfl]
    refine go_callV (as := [_, _]) wX12_391 dX12_days_43 rfl rfl rfl rfl (Nat.le_of_ble_eq_true rfl) (ct_dayM (fc.RO (hf.RO hR)) (XK_rem hKY) hC1 (by have := sk09 hKY; omega) (fun ψ fd eg hC2 => ?_))
    refine go_iincI dX12_days_46 rfl (Nat.le_of_ble_eq_true rfl) rfl ?_
    refine go_goto (tgt := 23) dX12_days_49 (by decide) ?_
    obtain ⟨r, rfl⟩ : ∃ q, r = q + 1 := ⟨r - 1, by omega⟩
    have hx := XK_rd hKY (sk09 hKY).1 (by omega)
    simp only [List.set, iI_add]
    exact ih r (by omega) (i + 1) _ _ (by omega) ((hf.tr fc).tr fd) hC2 hx.1 (by rw [hx.2]; omega) hY
theorem ct_X12_days {l : Launch} {D : va_G} {cA ad : Nat → Nat} {d : Nat} {σ : AS} {K : Option Value → AS → Prop} {X : XS} {a : Int} (hR : RO σ) (hK0 : XK X) (hC : MI σ X) (ha32 : -2147483648 ≤ a ∧ a < 2147483648) (hK : ∀ τ, FD σ τ → MI τ (daysY X a) → K (some (.int (iI (daysA X a)))) τ) : Call l D cA ad (d + 36) mX12_days [.ref 111, .int (iI a)] σ K := by
  have hP7 := hK0.s.1
  have hQ9 := hK0.s.2.1
  refine call_go (by decide) (Nat.le_of_ble_eq_true rfl) (show Go l D cA ad (d + 36) mX12_days 0 [.ref 111, .int (iI a), .null] [] σ K from ?_)
  refine go_aload_n dX12_days_0 rfl ?_
  refine go_iconst (v := iI 0) dX12_days_1 (by decide) ?_
  refine go_putI fX12_96 rfl dX12_days_2 rfl rfl rfl ?_
  have hq : DF (xL X) σ (sI σ 111 (upd (σ.1 111) 0 (iI 0))) := DF_f0 DF.rf
  have hR0 := hq.RO hR
  have hC0 := hC.q hK0 hq
  generalize sI σ 111 (upd (σ.1 111) 0 (iI 0)) = τ at hq hR0 hC0 ⊢
  refine go_aload_n dX12_days_5 rfl ?_
  refine go_aload_n dX12_days_6 rfl ?_
  refine go_getR fX12_61 dX12_days_7 rfl (hR0 _ _ _ rfl) ?_
  refine go_iload_n dX12_days_10 rfl ?_
  refine go_bipush (v := iI 60) dX12_days_11 (by decide) ?_
  refine go_callV (as := [_, _, _]) wX12_388 dX12_days_13 rfl rfl rfl rfl (Nat.le_of_ble_eq_true rfl) (ct_X12_mayPass hR0 hC0.2.1 hK0.s rfl (WM_R.mpr hC0.2.2.1.1) hK0.w ha32 (by decide) (fun hc => ?_) (fun hc => ?_))
  · refine go_if_ne (tgt := 21) dX12_days_16 (by decide) (fun h16 => ?_) (fun h16 => ?_)
    · refine go_iconst (v := iI 0) dX12_days_21 (by decide) ?_
      refine go_istore_n dX12_days_22 (Nat.le_of_ble_eq_true rfl) rfl ?_
      obtain ⟨n, rfl⟩ : ∃ n : Nat, a = n := ⟨a.toNat, by omega⟩
      have h8 := (XK_days n X hK0 (by omega)).2.1
      have e1 : daysY X n = daysX n X := by unfold daysY; rw [if_pos hc]; rfl
      have e2 : daysA X n = (dy (xw (daysX n X)) : Int) := by unfold daysA; rw [if_pos hc, h8]; omega
      rw [e1, e2] at hK
      simp only [List.set]
      exact md23 (X1 := daysX n X) (by omega) hR0 (fun ρ f h => hK ρ (hq.1.tr f) h) n 0 X τ (by omega) FD.rf hC0 hK0 (by omega) rfl
    · exact absurd h16 (by decide)
  · refine go_if_ne (tgt := 21) dX12_days_16 (by decide) (fun h16 => ?_) (fun h16 => ?_)
    · exact absurd h16 (by decide)
    · refine go_iconst (v := iI (-1)) dX12_days_19 (by decide) ?_
      refine go_iret rfl rfl dX12_days_20 ?_
      have e1 : daysY X a = X := by unfold daysY; rw [if_neg hc]
      have e2 : daysA X a = -1 := by unfold daysA; rw [if_neg hc]
      rw [e1, e2] at hK
      exact hK τ hq.1 hC0

