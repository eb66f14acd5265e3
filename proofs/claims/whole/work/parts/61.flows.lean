/-! the model's day -/
def WR (r : Nat → Int32) (w : WT) : Prop := (∀ i, i < 7 → r (3 * i) = iI (wa w i) ∧ r (3 * i + 1) = iI (ca w i) ∧ r (3 * i + 2) = iI (pk w i)) ∧ r 21 = iI (opn w) ∧ r 22 = iI (ovr w) ∧ r 23 = iI (dy w)
theorem WM_R {σ : AS} {c : Nat} {w : WT} : WM σ c w ↔ WR (σ.1 c) w := Iff.rfl
theorem WR_k {r r' : Nat → Int32} {w : WT} {f : Nat → Int} {k : Nat} (hk : k < 3) (hW : WR r w) (h1 : ∀ i, i < 7 → r' (3 * i + k) = iI (f i)) (h2 : ∀ j, (∀ i, i < 7 → j ≠ 3 * i + k) → r' j = r j) : WR r' (if k = 0 then f else wa w, if k = 1 then f else ca w, if k = 2 then f else pk w, w.2.2.2) := by
  rcases (show k = 0 ∨ k = 1 ∨ k = 2 by omega) with rfl | rfl | rfl
  · refine ⟨fun i hi => ⟨h1 i hi, ?_, ?_⟩, ?_, ?_, ?_⟩
    · rw [h2 _ (fun i hi => by omega)]; exact (hW.1 i hi).2.1
    · rw [h2 _ (fun i hi => by omega)]; exact (hW.1 i hi).2.2
    · rw [h2 _ (fun i hi => by omega)]; exact hW.2.1
    · rw [h2 _ (fun i hi => by omega)]; exact hW.2.2.1
    · rw [h2 _ (fun i hi => by omega)]; exact hW.2.2.2
  · refine ⟨fun i hi => ⟨?_, h1 i hi, ?_⟩, ?_, ?_, ?_⟩
    · rw [h2 _ (fun i hi => by omega)]; exact (hW.1 i hi).1
    · rw [h2 _ (fun i hi => by omega)]; exact (hW.1 i hi).2.2
    · rw [h2 _ (fun i hi => by omega)]; exact hW.2.1
    · rw [h2 _ (fun i hi => by omega)]; exact hW.2.2.1
    · rw [h2 _ (fun i hi => by omega)]; exact hW.2.2.2
  · refine ⟨fun i hi => ⟨?_, ?_, h1 i hi⟩, ?_, ?_, ?_⟩
    · rw [h2 _ (fun i hi => by omega)]; exact (hW.1 i hi).1
    · rw [h2 _ (fun i hi => by omega)]; exact (hW.1 i hi).2.1
    · rw [h2 _ (fun i hi => by omega)]; exact hW.2.1
    · rw [h2 _ (fun i hi => by omega)]; exact hW.2.2.1
    · rw [h2 _ (fun i hi => by omega)]; exact hW.2.2.2
theorem mov3 {f : Nat → Int} {a b i k : Nat} {v : Int} {r : Nat → Int32} (hr : ∀ i, i < 7 → r (3 * i + k) = iI (f i)) (hi : i < 7) (hab : a ≠ b) : upd (upd r (3 * a + k) (iI (f a - v))) (3 * b + k) (iI (f b + v)) (3 * i + k) = iI (moveF f a b v i) := by
  unfold moveF
  by_cases h2 : i = b
  · subst h2; rw [upd_same, if_neg (fun q => hab q.symm), if_pos rfl]
  · rw [upd_ne _ _ _ _ (by omega)]
    by_cases h1 : i = a
    · subst h1; rw [upd_same, if_pos rfl]
    · rw [upd_ne _ _ _ _ (by omega), if_neg h1, if_neg h2]; exact hr i hi
theorem set3 {f : Nat → Int} {p i k : Nat} {v : Int} {r : Nat → Int32} (hr : ∀ i, i < 7 → r (3 * i + k) = iI (f i)) (hi : i < 7) : upd r (3 * p + k) (iI v) (3 * i + k) = iI (setF f p v i) := by
  unfold setF
  by_cases h1 : i = p
  · subst h1; rw [upd_same, if_pos rfl]
  · rw [upd_ne _ _ _ _ (by omega), if_neg h1]; exact hr i hi
theorem ct_X12_swims {l : Launch} {D : va_G} {cA ad : Nat → Nat} {d : Nat} {σ : AS} {K : Option Value → AS → Prop} {c a b k : Nat} {m : Int} {f : Nat → Int} (hc : sh[c]? = some (1, 205)) (ha : a < 7) (hb : b < 7) (hk : k < 3) (hab : a ≠ b) (hm : 0 ≤ m ∧ m ≤ 99) (hf : ∀ i, i < 7 → σ.1 c (3 * i + k) = iI (f i)) (hfb : ∀ i, 0 ≤ f i ∧ f i ≤ m) (hK : ∀ r, (∀ i, i < 7 → r (3 * i + k) = iI (swimF f a b m i)) → (∀ j, (∀ i, i < 7 → j ≠ 3 * i + k) → r j = σ.1 c j) → K none (sI σ c r)) : Call l D cA ad d mX12_swims [.ref c, .int (iI a), .int (iI b), .int (iI k), .int (iI m)] σ K := by
  have b1 := hfb a
  have b2 := hfb b
  refine call_go (by decide) (Nat.le_of_ble_eq_true rfl) (show Go l D cA ad d mX12_swims 0 [.ref c, .int (iI a), .int (iI b), .int (iI k), .int (iI m)] [] σ K from ?_)
  refine go_aload_n dX12_swims_0 rfl ?_
  refine go_iconst (v := iI 3) dX12_swims_1 (by decide) ?_
  refine go_iload_n dX12_swims_2 rfl ?_
  refine go_imul dX12_swims_3 ?_
  refine go_iload_n dX12_swims_4 rfl ?_
  refine go_iadd dX12_swims_5 ?_
  refine go_iald dX12_swims_6 hc (by rw [iI_mul, iI_add]; exact vp_iI (by omega)) ?_
  rw [iI_mul, iI_add, iI_cl (show (0 : Int) ≤ 3 * (a : Int) + (k : Int) ∧ 3 * (a : Int) + (k : Int) < 2147483648 by omega), show (3 * (a : Int) + (k : Int)).toNat = 3 * a + k by omega, hf a ha]
  refine go_if_eq (tgt := 22) dX12_swims_7 (by decide) (fun h7 => ?_) (fun h7 => ?_)
  · rw [iI_eq0 (by omega)] at h7
    refine go_vret rfl dX12_swims_22 ?_
    have e : swimF f a b m = f := by unfold swimF; rw [if_neg (by omega)]
    have h9 := hK (σ.1 c) (fun i hi => by rw [e]; exact hf i hi) (fun j hj => rfl)
    rw [sI_self] at h9
    exact h9
  · rw [iI_eq0 (by omega)] at h7
    refine go_aload_n dX12_swims_10 rfl ?_
    refine go_iconst (v := iI 3) dX12_swims_11 (by decide) ?_
    refine go_iload_n dX12_swims_12 rfl ?_
    refine go_imul dX12_swims_13 ?_
    refine go_iload_n dX12_swims_14 rfl ?_
    refine go_iadd dX12_swims_15 ?_
    refine go_iald dX12_swims_16 hc (by rw [iI_mul, iI_add]; exact vp_iI (by omega)) ?_
    rw [iI_mul, iI_add, iI_cl (show (0 : Int) ≤ 3 * (b : Int) + (k : Int) ∧ 3 * (b : Int) + (k : Int) < 2147483648 by omega), show (3 * (b : Int) + (k : Int)).toNat = 3 * b + k by omega, hf b hb]
    refine go_iload dX12_swims_17 rfl ?_
    refine go_icmp_lt (tgt := 23) dX12_swims_19 (by decide) (fun h19 => ?_) (fun h19 => ?_)
    · rw [iI_lt (by omega)] at h19
      refine go_aload_n dX12_swims_23 rfl ?_
      refine go_iconst (v := iI 3) dX12_swims_24 (by decide) ?_
      refine go_iload_n dX12_swims_25 rfl ?_
      refine go_imul dX12_swims_26 ?_
      refine go_iload_n dX12_swims_27 rfl ?_
      refine go_iadd dX12_swims_28 ?_
      refine go_dup2 dX12_swims_29 rfl rfl ?_
      refine go_iald dX12_swims_30 hc (by rw [iI_mul, iI_add]; exact vp_iI (by omega)) ?_
      rw [iI_mul, iI_add, iI_cl (show (0 : Int) ≤ 3 * (a : Int) + (k : Int) ∧ 3 * (a : Int) + (k : Int) < 2147483648 by omega), show (3 * (a : Int) + (k : Int)).toNat = 3 * a + k by omega, hf a ha]
      refine go_iconst (v := iI 1) dX12_swims_31 (by decide) ?_
      refine go_isub dX12_swims_32 ?_
      rw [iI_sub]
      refine go_iast dX12_swims_33 hc (vp_iI (by omega)) ?_
      rw [iI_cl (show (0 : Int) ≤ 3 * (a : Int) + (k : Int) ∧ 3 * (a : Int) + (k : Int) < 2147483648 by omega), show (3 * (a : Int) + (k : Int)).toNat = 3 * a + k by omega]
      refine go_aload_n dX12_swims_34 rfl ?_
      refine go_iconst (v := iI 3) dX12_swims_35 (by decide) ?_
      refine go_iload_n dX12_swims_36 rfl ?_
      refine go_imul dX12_swims_37 ?_
      refine go_iload_n dX12_swims_38 rfl ?_
      refine go_iadd dX12_swims_39 ?_
      refine go_dup2 dX12_swims_40 rfl rfl ?_
      refine go_iald dX12_swims_41 hc (by rw [iI_mul, iI_add]; exact vp_iI (by omega)) ?_
      rw [iI_mul, iI_add, iI_cl (show (0 : Int) ≤ 3 * (b : Int) + (k : Int) ∧ 3 * (b : Int) + (k : Int) < 2147483648 by omega), show (3 * (b : Int) + (k : Int)).toNat = 3 * b + k by omega, sI_same, upd_ne _ _ _ _ (by omega), hf b hb]
      refine go_iconst (v := iI 1) dX12_swims_42 (by decide) ?_
      refine go_iadd dX12_swims_43 ?_
      rw [iI_add]
      refine go_iast dX12_swims_44 hc (vp_iI (by omega)) ?_
      rw [iI_cl (show (0 : Int) ≤ 3 * (b : Int) + (k : Int) ∧ 3 * (b : Int) + (k : Int) < 2147483648 by omega), show (3 * (b : Int) + (k : Int)).toNat = 3 * b + k by omega, sI_same, sI_sI]
      refine go_vret rfl dX12_swims_45 ?_
      have e : swimF f a b m = moveF f a b 1 := by unfold swimF; rw [if_pos (by omega)]
      exact hK _ (fun i hi => by rw [e]; exact mov3 hf hi hab) (fun j hj => by rw [upd_ne _ _ _ _ (hj b hb), upd_ne _ _ _ _ (hj a ha)])
    · rw [iI_lt (by omega)] at h19
      refine go_vret rfl dX12_swims_22 ?_
      have e : swimF f a b m = f := by unfold swimF; rw [if_neg (by omega)]
      have h9 := hK (σ.1 c) (fun i hi => by rw [e]; exact hf i hi) (fun j hj => rfl)
      rw [sI_self] at h9
      exact h9

def MS (s : PS) (Ls : LwT) (h : Int) (τ : AS) : Prop := RO τ ∧ TwM τ s ∧ LsM τ Ls h ∧ MeM τ Ls ∧ LtM τ
theorem MS.fr {s : PS} {Ls : LwT} {h : Int} {σ τ : AS} {c : Nat} (hM : MS s Ls h σ) (fr : FrN c σ τ) (hcx : c = 124 ∨ c = 125 ∨ c = 127) (h1 : MeM τ Ls) (h2 : LtM τ) : MS s Ls h τ := ⟨fr.RO hM.1, fr.TwM hM.2.1 (by omega) (by omega) (by omega), fr.LsM hM.2.2.1 (by omega) (by omega), h1, h2⟩
theorem MS.si {s : PS} {Ls : LwT} {h : Int} {σ : AS} {c : Nat} {r : Nat → Int32} (hM : MS s Ls h σ) (hcx : c = 124 ∨ c = 125) : MS s Ls h (sI σ c r) := by
  have fr : FrN c σ (sI σ c r) := FrN.rf.sI (Or.inr (Or.inr rfl)) (by omega)
  refine hM.fr fr (by omega) (fun i hi => ?_) ?_
  · rw [sI_ne _ _ _ _ (show 127 ≠ c by omega)]; exact hM.2.2.2.1 i hi
  · obtain ⟨ev, he⟩ := hM.2.2.2.2
    exact ⟨ev, fun j hj => by rw [sI_ne _ _ _ _ (show 115 ≠ c by omega)]; exact he j hj⟩
theorem m2 {l : Launch} {D : va_G} {cA ad : Nat → Nat} {d : Nat} {σ : AS} {K : Option Value → AS → Prop} {s : PS} {Ls : LwT} {h : Int} {c : Nat} {W1 : WT} (hS : TwK s) (hc : sh[c]? = some (1, 205)) (hcx : c = 124 ∨ c = 125) (hLk : LsK Ls h) (hK : ∀ τ, FrN c σ τ → MS s Ls h τ → WM τ c W1 → (∀ j, 24 ≤ j → τ.1 c j = σ.1 c j) → K none τ) : ∀ (n k : Nat) (w : WT) (τ : AS) (v3 v4 v5 : Value), n + k = nQ s → MS s Ls h τ → WM τ c w → WK s w → FrN c σ τ → (∀ j, 24 ≤ j → τ.1 c j = σ.1 c j) → flwF s (hLw Ls h) n k w = W1 → Go l D cA ad (d + 34) mX12_flows 2 [.ref 111, .ref c, .int (iI k), v3, v4, v5] [] τ K := by
  have hP7 := hS.1
  have hQ9 := hS.2.1
  intro n
  induction n using Nat.strongRecOn with
  | _ n ih =>
  intro k w τ v3 v4 v5 hn hM hW hw hfr hlg hres
  refine go_iload_n dX12_flows_2 rfl ?_
  refine go_aload_n dX12_flows_3 rfl ?_
  refine go_getI fX12_297 dX12_flows_4 rfl ?_
  refine go_icmp_ge (tgt := 108) dX12_flows_7 (by decide) (fun h7 => ?_) (fun h7 => ?_)
  · rw [hM.2.1.2.1, iI_le (by omega)] at h7
    refine go_vret rfl dX12_flows_108 ?_
    have hn0 : n = 0 := by omega
    subst hn0
    have e : w = W1 := hres
    subst e
    exact hK τ hfr hM hW hlg
  · rw [hM.2.1.2.1, iI_le (by omega)] at h7
    refine go_aload_n dX12_flows_10 rfl ?_
    refine go_bipush (v := iI 21) dX12_flows_11 (by decide) ?_
    refine go_iald dX12_flows_13 hc (vp_iI (by decide)) ?_
    rw [show (iI 21).toNatClampNeg = 21 by decide, hW.2.1]
    refine go_iload_n dX12_flows_14 rfl ?_
    refine go_callS (as := [_, _]) wX12_229 dX12_flows_15 rfl rfl (Nat.le_of_ble_eq_true rfl) (ct_X12_has (pw512 hS hw) (by omega) ?_)
    obtain ⟨m, rfl⟩ : ∃ m, n = m + 1 := ⟨n - 1, by omega⟩
    have hhl := hiE_ok (w := w) (k := k) hS (by omega)
    have hfb := flF_bd (hv := hLw Ls h) hS hw (k := k) (by omega)
    rcases bit_01 (opn w) k with hbit | hbit
    · rw [hbit]
      refine go_if_eq (tgt := 30) dX12_flows_18 (by decide) (fun h18 => ?_) (fun h18 => ?_)
      · refine go_iconst (v := iI 0) dX12_flows_30 (by decide) ?_
        refine go_istore_n dX12_flows_31 (Nat.le_of_ble_eq_true rfl) rfl ?_
        refine go_iload_n dX12_flows_32 rfl ?_
        refine go_if_ne (tgt := 39) dX12_flows_33 (by decide) (fun h33 => ?_) (fun h33 => ?_)
        · exact absurd h33 (by decide)
        · refine go_goto (tgt := 102) dX12_flows_36 (by decide) ?_
          refine go_iincI dX12_flows_102 rfl (Nat.le_of_ble_eq_true rfl) rfl ?_
          refine go_goto (tgt := 2) dX12_flows_105 (by decide) ?_
          simp only [List.set, iI_add]
          exact ih m (by omega) (k + 1) w τ _ _ _ (by omega) hM hW hw hfr hlg (by rw [← hres]; show _ = flwF s (hLw Ls h) m (k + 1) (if bitb (opn w) k = true then _ else _); rw [if_neg (by unfold bitb; rw [hbit]; decide)])
      · exact absurd h18 (by decide)
    · rw [hbit]
      refine go_if_eq (tgt := 30) dX12_flows_18 (by decide) (fun h18 => ?_) (fun h18 => ?_)
      · exact absurd h18 (by decide)
      · refine go_aload_n dX12_flows_21 rfl ?_
        refine go_aload_n dX12_flows_22 rfl ?_
        refine go_iload_n dX12_flows_23 rfl ?_
        refine go_callV (as := [_, _]) wX12_342 dX12_flows_24 rfl rfl rfl rfl (Nat.le_of_ble_eq_true rfl) (ct_X12_flowOf hM.1 hM.2.1 hS hc hW hw (by omega) (by omega) (by omega) hLk hM.2.2.1 hM.2.2.2.1 hM.2.2.2.2 (by omega) (fun τ1 fr1 hMe1 hLt1 => ?_))
        · have hM1 : MS s Ls h τ1 := hM.fr fr1 (by omega) hMe1 hLt1
          have hW1 : WM τ1 c w := fr1.wm hW (by omega) (by omega) (by omega) (by omega)
          have hfr1 : FrN c σ τ1 := hfr.tr fr1.to
          have hlg1 : ∀ j, 24 ≤ j → τ1.1 c j = σ.1 c j := fun j hj => by rw [fr1.1 c (by omega) (by omega) (by omega) (by omega)]; exact hlg j hj
          refine go_goto (tgt := 31) dX12_flows_27 (by decide) ?_
          refine go_istore_n dX12_flows_31 (Nat.le_of_ble_eq_true rfl) rfl ?_
          refine go_iload_n dX12_flows_32 rfl ?_
          refine go_if_ne (tgt := 39) dX12_flows_33 (by decide) (fun h33 => ?_) (fun h33 => ?_)
          · rw [iI_eq0 (by omega)] at h33
            refine go_aload_n dX12_flows_39 rfl ?_
            refine go_aload_n dX12_flows_40 rfl ?_
            refine go_iload_n dX12_flows_41 rfl ?_
            refine go_callV (as := [_, _]) wX12_319 dX12_flows_42 rfl rfl rfl rfl (Nat.le_of_ble_eq_true rfl) (ct_X12_highOf hM1.1 hM1.2.1 hS hc hW1 hw (by omega) (fun hg => ?_) (fun hg => ?_))
            · exact absurd (by unfold flF; rw [if_pos (Or.inl hg)]) h33
            · refine go_istore dX12_flows_45 (Nat.le_of_ble_eq_true rfl) rfl ?_
              refine go_aload_n dX12_flows_47 rfl ?_
              refine go_iload_n dX12_flows_48 rfl ?_
              refine go_iload dX12_flows_49 rfl ?_
              refine go_callV (as := [_, _]) wX12_322 dX12_flows_51 rfl rfl rfl rfl (Nat.le_of_ble_eq_true rfl) (ct_X12_otherOf (w := w) hM1.1 hM1.2.1 hS (by omega) ?_)
              refine go_istore dX12_flows_54 (Nat.le_of_ble_eq_true rfl) rfl ?_
              refine go_aload_n dX12_flows_56 rfl ?_
              refine go_iconst (v := iI 3) dX12_flows_57 (by decide) ?_
              refine go_iload dX12_flows_58 rfl ?_
              refine go_imul dX12_flows_60 ?_
              refine go_iconst (v := iI 0) dX12_flows_61 (by decide) ?_
              refine go_iadd dX12_flows_62 ?_
              refine go_dup2 dX12_flows_63 rfl rfl ?_
              refine go_iald dX12_flows_64 hc (by rw [iI_mul, iI_add]; exact vp_iI (by omega)) ?_
              rw [iI_mul, iI_add, iI_cl (show (0 : Int) ≤ 3 * (((hiE s w k) : Nat) : Int) + 0 ∧ 3 * (((hiE s w k) : Nat) : Int) + 0 < 2147483648 by omega), show (3 * (((hiE s w k) : Nat) : Int) + 0).toNat = 3 * (hiE s w k) by omega, (hW1.1 _ (by omega)).1]
              refine go_iload_n dX12_flows_65 rfl ?_
              refine go_isub dX12_flows_66 ?_
              rw [iI_sub]
              refine go_iast dX12_flows_67 hc (vp_iI (by omega)) ?_
              rw [iI_cl (show (0 : Int) ≤ 3 * (((hiE s w k) : Nat) : Int) + 0 ∧ 3 * (((hiE s w k) : Nat) : Int) + 0 < 2147483648 by omega), show (3 * (((hiE s w k) : Nat) : Int) + 0).toNat = 3 * (hiE s w k) + 0 by omega]
              refine go_aload_n dX12_flows_68 rfl ?_
              refine go_iconst (v := iI 3) dX12_flows_69 (by decide) ?_
              refine go_iload dX12_flows_70 rfl ?_
              refine go_imul dX12_flows_72 ?_
              refine go_iconst (v := iI 0) dX12_flows_73 (by decide) ?_
              refine go_iadd dX12_flows_74 ?_
              refine go_dup2 dX12_flows_75 rfl rfl ?_
              refine go_iald dX12_flows_76 hc (by rw [iI_mul, iI_add]; exact vp_iI (by omega)) ?_
              rw [iI_mul, iI_add, iI_cl (show (0 : Int) ≤ 3 * (((loE s w k) : Nat) : Int) + 0 ∧ 3 * (((loE s w k) : Nat) : Int) + 0 < 2147483648 by omega), show (3 * (((loE s w k) : Nat) : Int) + 0).toNat = 3 * (loE s w k) + 0 by omega, sI_same, upd_ne _ _ _ _ (by omega), show 3 * (loE s w k) + 0 = 3 * (loE s w k) from rfl, (hW1.1 _ (by omega)).1]
              refine go_iload_n dX12_flows_77 rfl ?_
              refine go_iadd dX12_flows_78 ?_
              rw [iI_add (wa w (loE s w k)) _]
              refine go_iast dX12_flows_79 hc (vp_iI (by omega)) ?_
              rw [iI_cl (show (0 : Int) ≤ 3 * (((loE s w k) : Nat) : Int) + 0 ∧ 3 * (((loE s w k) : Nat) : Int) + 0 < 2147483648 by omega), show (3 * (((loE s w k) : Nat) : Int) + 0).toNat = 3 * (loE s w k) + 0 by omega, sI_same, sI_sI]
              refine go_aload_n dX12_flows_80 rfl ?_
              refine go_iload dX12_flows_81 rfl ?_
              refine go_iload dX12_flows_83 rfl ?_
              refine go_iconst (v := iI 1) dX12_flows_85 (by decide) ?_
              refine go_bipush (v := iI 99) dX12_flows_86 (by decide) ?_
              refine go_callS (as := [_, _, _, _, _]) wX12_345 dX12_flows_88 rfl rfl (Nat.le_of_ble_eq_true rfl) (ct_X12_swims (k := 1) (f := ca w) hc (by omega) (by omega) (by decide) hhl.2.2.1 (by decide) (fun i hi => by rw [sI_same, upd_ne _ _ _ _ (by omega), upd_ne _ _ _ _ (by omega)]; exact (hW1.1 i hi).2.1) (fun i => by have := wk7 hS hw i; omega) (fun r2 hr2 hr2n => ?_))
              rw [sI_sI]
              simp only [sI_same] at hr2n
              refine go_aload_n dX12_flows_91 rfl ?_
              refine go_iload dX12_flows_92 rfl ?_
              refine go_iload dX12_flows_94 rfl ?_
              refine go_iconst (v := iI 2) dX12_flows_96 (by decide) ?_
              refine go_bipush (v := iI 9) dX12_flows_97 (by decide) ?_
              refine go_callS (as := [_, _, _, _, _]) wX12_345 dX12_flows_99 rfl rfl (Nat.le_of_ble_eq_true rfl) (ct_X12_swims (k := 2) (f := pk w) hc (by omega) (by omega) (by decide) hhl.2.2.1 (by decide) (fun i hi => by rw [sI_same, hr2n _ (fun i hi => by omega), upd_ne _ _ _ _ (by omega), upd_ne _ _ _ _ (by omega)]; exact (hW1.1 i hi).2.2) (fun i => by have := wk7 hS hw i; omega) (fun r3 hr3 hr3n => ?_))
              refine go_iincI dX12_flows_102 rfl (Nat.le_of_ble_eq_true rfl) rfl ?_
              refine go_goto (tgt := 2) dX12_flows_105 (by decide) ?_
              rw [sI_sI]
              simp only [sI_same] at hr3n
              simp only [List.set, iI_add]
              have hWn : WR r3 (carryF s (hLw Ls h) w k) := by
                have e : carryF s (hLw Ls h) w k = (moveF (wa w) (hiE s w k) (loE s w k) (flF s (hLw Ls h) w k), swimF (ca w) (hiE s w k) (loE s w k) 99, swimF (pk w) (hiE s w k) (loE s w k) 9, w.2.2.2) := by unfold carryF; rw [if_neg h33]
                rw [e]
                have a1 := WR_k (k := 0) (f := moveF (wa w) (hiE s w k) (loE s w k) (flF s (hLw Ls h) w k)) (by decide) (WM_R.mp hW1) (fun i hi => mov3 (k := 0) (r := τ1.1 c) (fun i hi => (hW1.1 i hi).1) hi hhl.2.2.1) (fun j hj => by rw [upd_ne _ _ _ _ (hj _ (by omega)), upd_ne _ _ _ _ (hj _ (by omega))])
                have a2 := WR_k (k := 1) (by decide) a1 hr2 hr2n
                exact WR_k (k := 2) (by decide) a2 hr3 hr3n
              have hlg3 : ∀ j, 24 ≤ j → r3 j = σ.1 c j := fun j hj => by
                rw [hr3n j (fun i hi => by omega), hr2n j (fun i hi => by omega), upd_ne _ _ _ _ (by omega), upd_ne _ _ _ _ (by omega)]
                exact hlg1 j hj
              exact ih m (by omega) (k + 1) _ (sI τ1 c r3) _ _ _ (by omega) (hM1.si hcx) (by rw [WM_R, sI_same]; exact hWn) (carryF_ok hS hw (by omega)) (hfr1.sI (Or.inr (Or.inr rfl)) (by omega)) (fun j hj => by rw [sI_same]; exact hlg3 j hj) (by rw [← hres]; show _ = flwF s (hLw Ls h) m (k + 1) (if bitb (opn w) k = true then _ else _); rw [if_pos (by unfold bitb; rw [hbit]; decide)])
          · rw [iI_eq0 (by omega)] at h33
            refine go_goto (tgt := 102) dX12_flows_36 (by decide) ?_
            refine go_iincI dX12_flows_102 rfl (Nat.le_of_ble_eq_true rfl) rfl ?_
            refine go_goto (tgt := 2) dX12_flows_105 (by decide) ?_
            simp only [List.set, iI_add]
            exact ih m (by omega) (k + 1) w τ1 _ _ _ (by omega) hM1 hW1 hw hfr1 hlg1 (by rw [← hres]; show _ = flwF s (hLw Ls h) m (k + 1) (if bitb (opn w) k = true then _ else _); rw [if_pos (by unfold bitb; rw [hbit]; decide)]; unfold carryF; rw [if_pos h33])
theorem ct_X12_flows {l : Launch} {D : va_G} {cA ad : Nat → Nat} {d : Nat} {σ : AS} {K : Option Value → AS → Prop} {s : PS} {w : WT} {Ls : LwT} {h : Int} {c : Nat} (hS : TwK s) (hc : sh[c]? = some (1, 205)) (hcx : c = 124 ∨ c = 125) (hLk : LsK Ls h) (hM : MS s Ls h σ) (hW : WM σ c w) (hw : WK s w) (hK : ∀ τ, FrN c σ τ → MS s Ls h τ → WM τ c (flwF s (hLw Ls h) (nQ s) 0 w) → (∀ j, 24 ≤ j → τ.1 c j = σ.1 c j) → K none τ) : Call l D cA ad (d + 34) mX12_flows [.ref 111, .ref c] σ K := by
  refine call_go (by decide) (Nat.le_of_ble_eq_true rfl) (show Go l D cA ad (d + 34) mX12_flows 0 [.ref 111, .ref c, .null, .null, .null, .null] [] σ K from ?_)
  refine go_iconst (v := iI 0) dX12_flows_0 (by decide) ?_
  refine go_istore_n dX12_flows_1 (Nat.le_of_ble_eq_true rfl) rfl ?_
  simp only [List.set]
  exact m2 hS hc hcx hLk hK (nQ s) 0 w σ _ _ _ (by omega) hM hW hw FrN.rf (fun j hj => rfl) rfl

