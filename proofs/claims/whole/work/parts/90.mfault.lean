/-! the model: fault -/
theorem DF_gen {Ls : LwT} {σ τ : AS} (h22 : ∀ k j, k ≠ 111 ∨ j ≠ 5 → τ.2.2 k j = σ.2.2 k j) (h21 : τ.2.1 = σ.2.1) (hc : ∀ k, k ≠ 111 → k ≠ 117 → k ≠ 119 → k ≠ 121 → k ≠ 122 → k ≠ 123 → τ.1 k = σ.1 k) (hf : ∀ j, uF j → τ.1 111 j = σ.1 111 j) (h1 : ∀ i, i < 192 → τ.1 122 i = σ.1 122 i) (h2 : ∀ i, i ≠ 4 → τ.1 123 i = σ.1 123 i) : DF Ls σ τ := by
  refine ⟨⟨fun k hk => hc k (by omega) (by omega) (by omega) (by omega) (by omega) (by omega), fun k _ _ => by rw [h21], h22⟩, hf, fun k hk => ?_, h1, h2, fun q => ?_, fun q => ?_⟩
  · unfold uM at hk; exact hc k (by omega) (by omega) (by omega) (by omega) (by omega) (by omega)
  · unfold MeM; rw [h21, hc 127 (by decide) (by decide) (by decide) (by decide) (by decide) (by decide)]; exact q
  · obtain ⟨ev, he⟩ := q
    exact ⟨ev, fun j hj => by rw [hc 115 (by decide) (by decide) (by decide) (by decide) (by decide) (by decide)]; exact he j hj⟩
theorem stT_22 {σ : AS} {tx b n k j : Nat} (h : k ≠ 111 ∨ j ≠ 5) : (stT σ tx b n).2.2 k j = σ.2.2 k j := by
  show (if k = 111 then va_up (σ.2.2 111) 5 (some tx) else σ.2.2 k) j = _
  by_cases hk : k = 111
  · subst hk
    rw [if_pos rfl]
    show (if j = 5 then some tx else σ.2.2 111 j) = _
    rw [if_neg (by omega)]
  · rw [if_neg hk]
theorem DF_M {Ls : LwT} {σ τ : AS} {n q : Nat} {f : Int} (h : FrM (stT σ 112 0 n) τ) : DF Ls σ (msa τ q f) := by
  refine DF_gen (fun k j hk => ?_) ?_ (fun k a b c d e f => ?_) (fun j hj => ?_) (fun i hi => ?_) (fun i hi => ?_)
  · show τ.2.2 k j = _; rw [h.1]; exact stT_22 hk
  · show τ.2.1 = _; rw [h.1]; rfl
  · rw [msa_ne _ _ _ _ a, h.2.1 k a b c d, stT_I a]
  · unfold uF at hj; rw [msa_fd _ _ _ _ (by omega) (by omega), h.2.2 j (by omega) (by omega) (by omega), stT_F (by omega) (by omega)]
  · rw [msa_ne _ _ _ _ (by decide), h.2.1 122 (by decide) (by decide) (by decide) (by decide), stT_I (by decide)]
  · rw [msa_ne _ _ _ _ (by decide), h.2.1 123 (by decide) (by decide) (by decide) (by decide), stT_I (by decide)]
theorem DF_P {Ls : LwT} {σ τ : AS} {n q : Nat} {f : Int} (h : FrP (stT σ 112 0 n) τ) : DF Ls σ (msa τ q f) := by
  refine DF_gen (fun k j hk => ?_) ?_ (fun k a b c d e f => ?_) (fun j hj => ?_) (fun i hi => ?_) (fun i hi => ?_)
  · show τ.2.2 k j = _; rw [h.1]; exact stT_22 hk
  · show τ.2.1 = _; rw [h.1]; rfl
  · rw [msa_ne _ _ _ _ a, h.2.1 k e f, stT_I a]
  · unfold uF at hj; rw [msa_fd _ _ _ _ (by omega) (by omega), h.2.1 111 (by decide) (by decide), stT_F (by omega) (by omega)]
  · rw [msa_ne _ _ _ _ (by decide), h.2.2.1 i hi, stT_I (by decide)]
  · rw [msa_ne _ _ _ _ (by decide), h.2.2.2 i hi, stT_I (by decide)]
theorem DF_G {Ls : LwT} {σ : AS} {n q : Nat} {f : Int} {o : Option Int} {w : Int32} : DF Ls σ (msa (md (gv (lbS σ 112 0 n) o) w) q f) := by
  refine DF_gen (fun k j hk => ?_) rfl (fun k a b c d e f => ?_) (fun j hj => ?_) (fun i hi => ?_) (fun i hi => ?_)
  · exact stT_22 (tx := 112) (b := 0) (n := n) hk
  · rw [msa_ne _ _ _ _ a]; unfold md; rw [sI_ne _ _ _ _ a]; unfold gv; rw [sI_ne _ _ _ _ a]; unfold lbS; rw [sI_ne _ _ _ _ a]; exact stT_I a
  · unfold uF at hj
    rw [msa_fd _ _ _ _ (by omega) (by omega)]; unfold md; rw [sI_same, upd_ne _ _ _ _ (by omega)]; unfold gv; rw [sI_same, upd_ne _ _ _ _ (by omega), upd_ne _ _ _ _ (by omega)]; unfold lbS; rw [sI_same, upd_ne _ _ _ _ (by omega)]; exact stT_F (by omega) (by omega)
  · rw [msa_ne _ _ _ _ (by decide)]; unfold md; rw [sI_ne _ _ _ _ (by decide)]; unfold gv; rw [sI_ne _ _ _ _ (by decide)]; unfold lbS; rw [sI_ne _ _ _ _ (by decide), stT_I (by decide)]
  · rw [msa_ne _ _ _ _ (by decide)]; unfold md; rw [sI_ne _ _ _ _ (by decide)]; unfold gv; rw [sI_ne _ _ _ _ (by decide)]; unfold lbS; rw [sI_ne _ _ _ _ (by decide), stT_I (by decide)]
/-- what the model has read -/
def RdM (τ : AS) (X : XS) (a : Int) : Prop := (a = 0 → ∀ q s, twS (xt X) 242 0 ps0 = (q, some s) → PSM τ s ∧ POK s ∧ PRG s) ∧ (a = 2 → ∀ q L, plS (xt X) 17 0 [] = (q, some L) → PLM τ 4 L ∧ τ.1 123 4 = iI L.length ∧ LOK L)
theorem PLM_msa {τ : AS} {p q : Nat} {f : Int} {L : List ST} (h : PLM τ p L) : PLM (msa τ q f) p L := by
  unfold PLM
  rw [msa_ne _ _ _ _ (by decide)]
  exact h
theorem TX_112 {σ : AS} {t : List Nat} (hT : TM σ t) (ht : TOK t) : TX (stT σ 112 0 t.length) 112 0 t := by
  refine ⟨?_, Or.inl ⟨rfl, by have := ht.1; omega⟩, ?_, ?_, fun i c hc => ?_⟩
  · show (if 111 = 111 then va_up (σ.2.2 111) 5 (some 112) else σ.2.2 111) 5 = _
    rw [if_pos rfl]; rfl
  · unfold stT; rw [sI_same, upd_ne _ _ _ _ (by decide), upd_same]
  · unfold stT; rw [sI_same, upd_same]
  · rw [stT_I (by decide), Nat.zero_add]; exact hT.2 i c hc
theorem ct_mfault0 {l : Launch} {D : va_G} {cA ad : Nat → Nat} {d : Nat} {σ : AS} {K : Option Value → AS → Prop} {X : XS} (hR : RO σ) (hK0 : XK X) (hC : MI σ X) (hK : ∀ τ, DF (xL X) σ τ → RdM τ X 0 → K (some (.int (iI (fltA X 0)))) τ) : Call l D cA ad (d + 32) mX12_fault [.ref 111, .int (iI 0)] σ K := by
  refine call_go (by decide) (Nat.le_of_ble_eq_true rfl) (show Go l D cA ad (d + 32) mX12_fault 0 [.ref 111, .int (iI 0)] [] σ K from ?_)
  refine go_aload_n dX12_fault_0 rfl ?_
  refine go_iconst (v := iI 0) dX12_fault_1 (by decide) ?_
  refine go_putI fX12_96 rfl dX12_fault_2 rfl rfl rfl ?_
  have hq : DF (xL X) σ (sI σ 111 (upd (σ.1 111) 0 (iI 0))) := DF_f0 DF.rf
  have hR0 := hq.RO hR
  have hC0 := hC.q hK0 hq
  generalize sI σ 111 (upd (σ.1 111) 0 (iI 0)) = τ at hq hR0 hC0 ⊢
  refine go_iload_n dX12_fault_5 rfl ?_
  refine go_i2l dX12_fault_6 ?_
  rw [i2l_iI (by decide)]
  refine go_lconst (v := 0) dX12_fault_7 (by decide) ?_
  refine go_ldc2 lX12_275 dX12_fault_8 ?_
  refine go_callS (as := [_, _, _]) wX12_217 dX12_fault_11 rfl rfl (Nat.le_of_ble_eq_true rfl) (ct_isIn2 (x := 0) (y := 2) (by decide) (by decide) (by decide) (fun hi => ?_) (fun hi => absurd (by decide) hi))
  · refine go_if_ne (tgt := 20) dX12_fault_14 (by decide) (fun h14 => ?_) (fun h14 => ?_)
    · refine go_iload_n dX12_fault_20 rfl ?_
      refine go_if_ne (tgt := 28) dX12_fault_21 (by decide) (fun h21 => ?_) (fun h21 => ?_)
      · exact absurd h21 (by decide)
      · refine go_aload_n dX12_fault_24 rfl ?_
        refine go_callV (as := []) wX12_277 dX12_fault_25 rfl rfl rfl rfl (Nat.le_of_ble_eq_true rfl) (ct_X12_readTown hK0.t hR0 hC0.1 (fun q ρ fr e => ?_) (fun q s ρ fr e hs hp hg => ?_))
        · refine go_iload_n dX12_fault_28 rfl ?_
          refine go_iconst (v := iI 1) dX12_fault_29 (by decide) ?_
          refine go_icmp_ne (tgt := 46) dX12_fault_30 (by decide) (fun h30 => ?_) (fun h30 => ?_)
          · refine go_iload_n dX12_fault_46 rfl ?_
            refine go_iconst (v := iI 2) dX12_fault_47 (by decide) ?_
            refine go_icmp_ne (tgt := 55) dX12_fault_48 (by decide) (fun h48 => ?_) (fun h48 => ?_)
            · refine go_aload_n dX12_fault_55 rfl ?_
              refine go_getI fX12_128 dX12_fault_56 rfl ?_
              rw [msa_ft]
              refine go_iret rfl rfl dX12_fault_59 ?_
              have ea : fltA X 0 = q := by unfold fltA; rw [if_pos rfl]; exact ff_n e
              rw [ea] at hK
              exact hK _ (hq.tr (DF_M fr)) (⟨fun _ q2 s2 e2 => (by rw [e] at e2; cases e2), fun h => absurd h (by decide)⟩)
            · exact absurd h48 (by decide)
          · exact absurd h30 (by decide)
        · refine go_iload_n dX12_fault_28 rfl ?_
          refine go_iconst (v := iI 1) dX12_fault_29 (by decide) ?_
          refine go_icmp_ne (tgt := 46) dX12_fault_30 (by decide) (fun h30 => ?_) (fun h30 => ?_)
          · refine go_iload_n dX12_fault_46 rfl ?_
            refine go_iconst (v := iI 2) dX12_fault_47 (by decide) ?_
            refine go_icmp_ne (tgt := 55) dX12_fault_48 (by decide) (fun h48 => ?_) (fun h48 => ?_)
            · refine go_aload_n dX12_fault_55 rfl ?_
              refine go_getI fX12_128 dX12_fault_56 rfl ?_
              rw [msa_ft]
              refine go_iret rfl rfl dX12_fault_59 ?_
              have ea : fltA X 0 = -1 := by unfold fltA; rw [if_pos rfl]; exact ff_s e
              rw [ea] at hK
              exact hK _ (hq.tr (DF_M fr)) (⟨fun _ q2 s2 e2 => (by rw [e] at e2; have e3 := Option.some.inj (Prod.mk.inj e2).2; subst e3; exact ⟨PSM_msa hs, hp, hg⟩), fun h => absurd h (by decide)⟩)
            · exact absurd h48 (by decide)
          · exact absurd h30 (by decide)
    · exact absurd h14 (by decide)

theorem ct_mfault1 {l : Launch} {D : va_G} {cA ad : Nat → Nat} {d : Nat} {σ : AS} {K : Option Value → AS → Prop} {X : XS} (hR : RO σ) (hK0 : XK X) (hC : MI σ X) (hK : ∀ τ, DF (xL X) σ τ → RdM τ X 1 → K (some (.int (iI (fltA X 1)))) τ) : Call l D cA ad (d + 32) mX12_fault [.ref 111, .int (iI 1)] σ K := by
  refine call_go (by decide) (Nat.le_of_ble_eq_true rfl) (show Go l D cA ad (d + 32) mX12_fault 0 [.ref 111, .int (iI 1)] [] σ K from ?_)
  refine go_aload_n dX12_fault_0 rfl ?_
  refine go_iconst (v := iI 0) dX12_fault_1 (by decide) ?_
  refine go_putI fX12_96 rfl dX12_fault_2 rfl rfl rfl ?_
  have hq : DF (xL X) σ (sI σ 111 (upd (σ.1 111) 0 (iI 0))) := DF_f0 DF.rf
  have hR0 := hq.RO hR
  have hC0 := hC.q hK0 hq
  generalize sI σ 111 (upd (σ.1 111) 0 (iI 0)) = τ at hq hR0 hC0 ⊢
  refine go_iload_n dX12_fault_5 rfl ?_
  refine go_i2l dX12_fault_6 ?_
  rw [i2l_iI (by decide)]
  refine go_lconst (v := 0) dX12_fault_7 (by decide) ?_
  refine go_ldc2 lX12_275 dX12_fault_8 ?_
  refine go_callS (as := [_, _, _]) wX12_217 dX12_fault_11 rfl rfl (Nat.le_of_ble_eq_true rfl) (ct_isIn2 (x := 0) (y := 2) (by decide) (by decide) (by decide) (fun hi => ?_) (fun hi => absurd (by decide) hi))
  · refine go_if_ne (tgt := 20) dX12_fault_14 (by decide) (fun h14 => ?_) (fun h14 => ?_)
    · refine go_iload_n dX12_fault_20 rfl ?_
      refine go_if_ne (tgt := 28) dX12_fault_21 (by decide) (fun h21 => ?_) (fun h21 => ?_)
      · refine go_iload_n dX12_fault_28 rfl ?_
        refine go_iconst (v := iI 1) dX12_fault_29 (by decide) ?_
        refine go_icmp_ne (tgt := 46) dX12_fault_30 (by decide) (fun h30 => ?_) (fun h30 => ?_)
        · exact absurd h30 (by decide)
        · refine go_aload_n dX12_fault_33 rfl ?_
          refine go_aload_n dX12_fault_34 rfl ?_
          refine go_getR fX12_9 dX12_fault_35 rfl (hR0 _ _ _ rfl) ?_
          refine go_iconst (v := iI 0) dX12_fault_38 (by decide) ?_
          refine go_aload_n dX12_fault_39 rfl ?_
          refine go_getI fX12_109 dX12_fault_40 rfl ?_
          rw [hC0.1.1]
          obtain ⟨ev, hE⟩ := hC0.2.2.2.2.2.2.2.2.1
          refine go_callV (as := [_, _, _]) wX12_280 dX12_fault_43 rfl rfl rfl rfl (Nat.le_of_ble_eq_true rfl) (ct_X12_goThrough (ev := ev) hK0.t hR0 (TX_112 hC0.1 hK0.t) hE (fun q oo ww e hq9 => ?_) (fun q L e hq9 => ?_))
          · refine go_iload_n dX12_fault_46 rfl ?_
            refine go_iconst (v := iI 2) dX12_fault_47 (by decide) ?_
            refine go_icmp_ne (tgt := 55) dX12_fault_48 (by decide) (fun h48 => ?_) (fun h48 => ?_)
            · refine go_aload_n dX12_fault_55 rfl ?_
              refine go_getI fX12_128 dX12_fault_56 rfl ?_
              rw [msa_ft]
              refine go_iret rfl rfl dX12_fault_59 ?_
              have ea : fltA X 1 = q := by unfold fltA; rw [if_neg (by decide), if_pos rfl]; exact ff_n e
              rw [ea] at hK
              exact hK _ (hq.tr (DF_G)) (⟨fun h => absurd h (by decide), fun h => absurd h (by decide)⟩)
            · exact absurd h48 (by decide)
          · refine go_iload_n dX12_fault_46 rfl ?_
            refine go_iconst (v := iI 2) dX12_fault_47 (by decide) ?_
            refine go_icmp_ne (tgt := 55) dX12_fault_48 (by decide) (fun h48 => ?_) (fun h48 => ?_)
            · refine go_aload_n dX12_fault_55 rfl ?_
              refine go_getI fX12_128 dX12_fault_56 rfl ?_
              rw [msa_ft]
              refine go_iret rfl rfl dX12_fault_59 ?_
              have ea : fltA X 1 = -1 := by unfold fltA; rw [if_neg (by decide), if_pos rfl]; exact ff_s e
              rw [ea] at hK
              exact hK _ (hq.tr (DF_G)) (⟨fun h => absurd h (by decide), fun h => absurd h (by decide)⟩)
            · exact absurd h48 (by decide)
      · exact absurd h21 (by decide)
    · exact absurd h14 (by decide)

theorem ct_mfault2 {l : Launch} {D : va_G} {cA ad : Nat → Nat} {d : Nat} {σ : AS} {K : Option Value → AS → Prop} {X : XS} (hR : RO σ) (hK0 : XK X) (hC : MI σ X) (hK : ∀ τ, DF (xL X) σ τ → RdM τ X 2 → K (some (.int (iI (fltA X 2)))) τ) : Call l D cA ad (d + 32) mX12_fault [.ref 111, .int (iI 2)] σ K := by
  refine call_go (by decide) (Nat.le_of_ble_eq_true rfl) (show Go l D cA ad (d + 32) mX12_fault 0 [.ref 111, .int (iI 2)] [] σ K from ?_)
  refine go_aload_n dX12_fault_0 rfl ?_
  refine go_iconst (v := iI 0) dX12_fault_1 (by decide) ?_
  refine go_putI fX12_96 rfl dX12_fault_2 rfl rfl rfl ?_
  have hq : DF (xL X) σ (sI σ 111 (upd (σ.1 111) 0 (iI 0))) := DF_f0 DF.rf
  have hR0 := hq.RO hR
  have hC0 := hC.q hK0 hq
  generalize sI σ 111 (upd (σ.1 111) 0 (iI 0)) = τ at hq hR0 hC0 ⊢
  refine go_iload_n dX12_fault_5 rfl ?_
  refine go_i2l dX12_fault_6 ?_
  rw [i2l_iI (by decide)]
  refine go_lconst (v := 0) dX12_fault_7 (by decide) ?_
  refine go_ldc2 lX12_275 dX12_fault_8 ?_
  refine go_callS (as := [_, _, _]) wX12_217 dX12_fault_11 rfl rfl (Nat.le_of_ble_eq_true rfl) (ct_isIn2 (x := 0) (y := 2) (by decide) (by decide) (by decide) (fun hi => ?_) (fun hi => absurd (by decide) hi))
  · refine go_if_ne (tgt := 20) dX12_fault_14 (by decide) (fun h14 => ?_) (fun h14 => ?_)
    · refine go_iload_n dX12_fault_20 rfl ?_
      refine go_if_ne (tgt := 28) dX12_fault_21 (by decide) (fun h21 => ?_) (fun h21 => ?_)
      · refine go_iload_n dX12_fault_28 rfl ?_
        refine go_iconst (v := iI 1) dX12_fault_29 (by decide) ?_
        refine go_icmp_ne (tgt := 46) dX12_fault_30 (by decide) (fun h30 => ?_) (fun h30 => ?_)
        · refine go_iload_n dX12_fault_46 rfl ?_
          refine go_iconst (v := iI 2) dX12_fault_47 (by decide) ?_
          refine go_icmp_ne (tgt := 55) dX12_fault_48 (by decide) (fun h48 => ?_) (fun h48 => ?_)
          · exact absurd h48 (by decide)
          · refine go_aload_n dX12_fault_51 rfl ?_
            refine go_callV (as := []) wX12_283 dX12_fault_52 rfl rfl rfl rfl (Nat.le_of_ble_eq_true rfl) (ct_X12_readPlan hK0.t hR0 hC0.1 (fun q ρ fr e => ?_) (fun q L ρ fr e hp hn hl => ?_))
            · refine go_aload_n dX12_fault_55 rfl ?_
              refine go_getI fX12_128 dX12_fault_56 rfl ?_
              rw [msa_ft]
              refine go_iret rfl rfl dX12_fault_59 ?_
              have ea : fltA X 2 = q := by unfold fltA; rw [if_neg (by decide), if_neg (by decide), if_pos rfl]; exact ff_n e
              rw [ea] at hK
              exact hK _ (hq.tr (DF_P fr)) (⟨fun h => absurd h (by decide), fun _ q2 L2 e2 => by rw [e] at e2; cases e2⟩)
            · refine go_aload_n dX12_fault_55 rfl ?_
              refine go_getI fX12_128 dX12_fault_56 rfl ?_
              rw [msa_ft]
              refine go_iret rfl rfl dX12_fault_59 ?_
              have ea : fltA X 2 = -1 := by unfold fltA; rw [if_neg (by decide), if_neg (by decide), if_pos rfl]; exact ff_s e
              rw [ea] at hK
              exact hK _ (hq.tr (DF_P fr)) (⟨fun h => absurd h (by decide), fun _ q2 L2 e2 => by rw [e] at e2; have e3 := Option.some.inj (Prod.mk.inj e2).2; subst e3; exact ⟨PLM_msa hp, by rw [msa_ne _ _ _ _ (by decide)]; exact hn, hl⟩⟩)
        · exact absurd h30 (by decide)
      · exact absurd h21 (by decide)
    · exact absurd h14 (by decide)

theorem ct_X12_fault {l : Launch} {D : va_G} {cA ad : Nat → Nat} {d : Nat} {σ : AS} {K : Option Value → AS → Prop} {X : XS} {a : Int} (hR : RO σ) (hK0 : XK X) (hC : MI σ X) (ha32 : -2147483648 ≤ a ∧ a < 2147483648) (hK : ∀ τ, DF (xL X) σ τ → K (some (.int (iI (fltA X a)))) τ) : Call l D cA ad (d + 32) mX12_fault [.ref 111, .int (iI a)] σ K := by
  by_cases h : 0 ≤ a ∧ a ≤ 2
  · rcases (show a = 0 ∨ a = 1 ∨ a = 2 by omega) with rfl | rfl | rfl
    · exact ct_mfault0 hR hK0 hC (fun τ h _ => hK τ h)
    · exact ct_mfault1 hR hK0 hC (fun τ h _ => hK τ h)
    · exact ct_mfault2 hR hK0 hC (fun τ h _ => hK τ h)
  refine call_go (by decide) (Nat.le_of_ble_eq_true rfl) (show Go l D cA ad (d + 32) mX12_fault 0 [.ref 111, .int (iI a)] [] σ K from ?_)
  refine go_aload_n dX12_fault_0 rfl ?_
  refine go_iconst (v := iI 0) dX12_fault_1 (by decide) ?_
  refine go_putI fX12_96 rfl dX12_fault_2 rfl rfl rfl ?_
  have hq : DF (xL X) σ (sI σ 111 (upd (σ.1 111) 0 (iI 0))) := DF_f0 DF.rf
  have hR0 := hq.RO hR
  have hC0 := hC.q hK0 hq
  generalize sI σ 111 (upd (σ.1 111) 0 (iI 0)) = τ at hq hR0 hC0 ⊢
  refine go_iload_n dX12_fault_5 rfl ?_
  refine go_i2l dX12_fault_6 ?_
  rw [i2l_iI (by omega)]
  refine go_lconst (v := 0) dX12_fault_7 (by decide) ?_
  refine go_ldc2 lX12_275 dX12_fault_8 ?_
  refine go_callS (as := [_, _, _]) wX12_217 dX12_fault_11 rfl rfl (Nat.le_of_ble_eq_true rfl) (ct_isIn2 (x := 0) (y := 2) (by decide) (by decide) (by omega) (fun hi => absurd hi h) (fun hi => ?_))
  · refine go_if_ne (tgt := 20) dX12_fault_14 (by decide) (fun h14 => ?_) (fun h14 => ?_)
    · exact absurd h14 (by decide)
    · refine go_bipush (v := iI (-2)) dX12_fault_17 (by decide) ?_
      refine go_iret rfl rfl dX12_fault_19 ?_
      have ea : fltA X a = -2 := by unfold fltA; rw [if_neg (by omega), if_neg (by omega), if_neg (by omega)]
      rw [ea] at hK
      exact hK τ hq
