/-! what flows, the model's way -/
def FrN (c : Nat) (σ τ : AS) : Prop := (∀ k, k ≠ 111 → k ≠ 115 → k ≠ 127 → k ≠ c → τ.1 k = σ.1 k) ∧ (∀ j, j ≠ 8 → j ≠ 9 → j ≠ 10 → j ≠ 11 → j ≠ 12 → j ≠ 13 → j ≠ 14 → j ≠ 17 → τ.1 111 j = σ.1 111 j) ∧ (∀ k, k ≠ 126 → τ.2.1 k = σ.2.1 k) ∧ (∀ k j, k ≠ 111 ∨ j ≠ 5 → τ.2.2 k j = σ.2.2 k j)
theorem FrN.rf {c : Nat} {σ : AS} : FrN c σ σ := ⟨fun _ _ _ _ _ => rfl, fun _ _ _ _ _ _ _ _ _ => rfl, fun _ _ => rfl, fun _ _ _ => rfl⟩
theorem FrN.tr {c : Nat} {σ τ ρ : AS} (h : FrN c σ τ) (g : FrN c τ ρ) : FrN c σ ρ := ⟨fun k a1 a2 a3 a4 => (g.1 k a1 a2 a3 a4).trans (h.1 k a1 a2 a3 a4), fun j a1 a2 a3 a4 a5 a6 a7 a8 => (g.2.1 j a1 a2 a3 a4 a5 a6 a7 a8).trans (h.2.1 j a1 a2 a3 a4 a5 a6 a7 a8), fun k a => (g.2.2.1 k a).trans (h.2.2.1 k a), fun k j a => (g.2.2.2 k j a).trans (h.2.2.2 k j a)⟩
theorem FrN.to {c : Nat} {σ τ : AS} (h : FrN 127 σ τ) : FrN c σ τ := ⟨fun k a1 a2 a3 _ => h.1 k a1 a2 a3 a3, h.2⟩
theorem FrN.RO {c : Nat} {σ τ : AS} (h : FrN c σ τ) (hR : RO σ) : RO τ := by
  intro k j a e
  rw [h.2.2.2 k j]
  · exact hR k j a e
  · by_cases hk : k = 111
    · right; intro hj; subst hk; subst hj; rw [show R0 111 5 = none by decide] at e; cases e
    · exact Or.inl hk
theorem FrN.sI {c k : Nat} {σ τ : AS} {r : Nat → Int32} (h : FrN c σ τ) (hk : k = 115 ∨ k = 127 ∨ k = c) (h1 : k ≠ 111) : FrN c σ (sI τ k r) := ⟨fun i a1 a2 a3 a4 => by rw [sI_ne _ _ _ _ (by omega)]; exact h.1 i a1 a2 a3 a4, fun j a1 a2 a3 a4 a5 a6 a7 a8 => by rw [sI_ne _ _ _ _ (fun q => h1 q.symm)]; exact h.2.1 j a1 a2 a3 a4 a5 a6 a7 a8, h.2.2.1, h.2.2.2⟩
theorem FrN.sL {c : Nat} {σ τ : AS} {r : Nat → Int64} (h : FrN c σ τ) : FrN c σ (sL τ 126 r) := ⟨h.1, h.2.1, fun k a => (if_neg a).trans (h.2.2.1 k a), h.2.2.2⟩
theorem FrN.goT {σ : AS} {tx b n q : Nat} {o : Option Int} {w : Int32} {f : Int} : FrN 127 σ (msa (md (gv (lbS σ tx b n) o) w) q f) := by
  refine ⟨fun k a1 a2 a3 a4 => ?_, fun j a1 a2 a3 a4 a5 a6 a7 a8 => ?_, fun k a => rfl, fun k j a => ?_⟩
  · rw [msa_ne _ _ _ _ a1, md_ne a1, gv_ne a1]; unfold lbS; rw [sI_ne _ _ _ _ a1, stT_I a1]
  · rw [msa_fd _ _ _ _ a3 a4, md_fd a5, gv_fd a8 a7]; unfold lbS; rw [sI_same, upd_ne _ _ _ _ a6, stT_F a1 a2]
  · show (if k = 111 then va_up (σ.2.2 111) 5 (some tx) else σ.2.2 k) j = σ.2.2 k j
    by_cases hk : k = 111
    · subst hk
      rw [if_pos rfl]
      show (if j = 5 then some tx else σ.2.2 111 j) = σ.2.2 111 j
      rw [if_neg (a.resolve_left (fun q => q rfl))]
    · rw [if_neg hk]
theorem FrN.TwM {c : Nat} {σ τ : AS} {s : PS} (h : FrN c σ τ) (hT : TwM σ s) (h1 : c ≠ 116) (h2 : c ≠ 118) (h3 : c ≠ 120) : TwM τ s := by
  refine ⟨?_, ?_, fun j hj => ?_, fun i j hi hj => ?_, fun k j hk hj => ?_⟩
  · rw [h.2.1 26 (by decide) (by decide) (by decide) (by decide) (by decide) (by decide) (by decide) (by decide)]; exact hT.1
  · rw [h.2.1 27 (by decide) (by decide) (by decide) (by decide) (by decide) (by decide) (by decide) (by decide)]; exact hT.2.1
  · rw [h.1 116 (by decide) (by decide) (by decide) (fun q => h1 q.symm)]; exact hT.2.2.1 j hj
  · rw [h.1 118 (by decide) (by decide) (by decide) (fun q => h2 q.symm)]; exact hT.2.2.2.1 i j hi hj
  · rw [h.1 120 (by decide) (by decide) (by decide) (fun q => h3 q.symm)]; exact hT.2.2.2.2 k j hk hj
def LsM (σ : AS) (Ls : LwT) (h : Int) : Prop := σ.1 111 7 = iI Ls.length ∧ σ.1 111 34 = iI h ∧ ∀ k x, Ls[k]? = some x → σ.1 114 k = iI x.1.length ∧ ∀ i c : Nat, x.1[i]? = some c → σ.1 113 (240 * k + i) = sb c
theorem FrN.LsM {c : Nat} {σ τ : AS} {Ls : LwT} {h0 : Int} (h : FrN c σ τ) (hT : LsM σ Ls h0) (h1 : c ≠ 113) (h2 : c ≠ 114) : LsM τ Ls h0 := by
  refine ⟨?_, ?_, fun k x hx => ?_⟩
  · rw [h.2.1 7 (by decide) (by decide) (by decide) (by decide) (by decide) (by decide) (by decide) (by decide)]; exact hT.1
  · rw [h.2.1 34 (by decide) (by decide) (by decide) (by decide) (by decide) (by decide) (by decide) (by decide)]; exact hT.2.1
  · rw [h.1 113 (by decide) (by decide) (by decide) (fun q => h1 q.symm), h.1 114 (by decide) (by decide) (by decide) (fun q => h2 q.symm)]; exact hT.2.2 k x hx
/-- the memo -/
def keyF (ev : Nat → Int) (h : Nat) : Int := (((((ev 5 * 110 + ev 0) * 10 + ev 1) * 100 + ev 2) * 100 + ev 3) * 100 + ev 4) * 5 + h + 1
def EvR (ev : Nat → Int) : Prop := 0 ≤ ev 0 ∧ ev 0 < 110 ∧ 0 ≤ ev 1 ∧ ev 1 < 10 ∧ 0 ≤ ev 2 ∧ ev 2 < 100 ∧ 0 ≤ ev 3 ∧ ev 3 < 100 ∧ 0 ≤ ev 4 ∧ ev 4 < 100 ∧ 0 ≤ ev 5 ∧ ev 5 ≤ 20000
theorem key_bd {ev : Nat → Int} {h : Nat} (he : EvR ev) (hh : h < 4) : 1 ≤ keyF ev h ∧ keyF ev h < 9000000000000000 := by unfold EvR at he; unfold keyF; omega
theorem key_inj {ev ev' : Nat → Int} {h h' : Nat} (he : EvR ev) (he' : EvR ev') (hh : h < 4) (hh' : h' < 4) (e : keyF ev h = keyF ev' h') : h = h' ∧ ∀ j, j < 6 → ev j = ev' j := by
  unfold EvR at he he'
  unfold keyF at e
  have h1 : h = h' := by omega
  have h4 : ev 4 = ev' 4 := by omega
  have h3 : ev 3 = ev' 3 := by omega
  have h2 : ev 2 = ev' 2 := by omega
  have h11 : ev 1 = ev' 1 := by omega
  have h0 : ev 0 = ev' 0 := by omega
  have h5 : ev 5 = ev' 5 := by omega
  refine ⟨h1, fun j hj => ?_⟩
  rcases (show j = 0 ∨ j = 1 ∨ j = 2 ∨ j = 3 ∨ j = 4 ∨ j = 5 by omega) with rfl | rfl | rfl | rfl | rfl | rfl <;> assumption
theorem Ex.cg {ev ev' : Nat → Int} (he : ∀ j, j < 6 → ev j = ev' j) {k : Bool} {m : Nat} {c : CV} (h : Ex k m c) : c.2 ev = c.2 ev' :=
  h (fun _ _ c => c.2 ev = c.2 ev') ⟨fun m n _ _ _ => rfl, fun m j _ hj => he j hj, fun m m1 m2 o x y hx hy _ _ _ => by show opV o _ _ = opV o _ _; rw [hx, hy], fun m m1 m2 o x y hx hy _ _ _ => by show opV o _ _ = opV o _ _; rw [hx, hy], fun m m1 m2 o x y hx hy _ _ _ => by show opV o _ _ = opV o _ _; rw [hx, hy], fun m m1 x hx _ => by show 1 - _ = 1 - _; rw [hx]⟩
theorem lawV_cg {ev ev' : Nat → Int} (he : ∀ j, j < 6 → ev j = ev' j) : ∀ (L : List CL), (∀ c, c ∈ L → ClOK c) → lawV ev L = lawV ev' L
  | [], _ => rfl
  | (none, y) :: L, h => (h _ (List.mem_cons_self ..)).1.cg he
  | (some x, y) :: L, h => by
    have h1 := h _ (List.mem_cons_self ..)
    unfold lawV
    rw [(h1.2 x rfl).cg he, h1.1.cg he, lawV_cg he L (fun c hc => h c (List.mem_cons_of_mem _ hc))]
def MeM (σ : AS) (Ls : LwT) : Prop := ∀ i, i < 8191 → σ.2.1 126 i = 0 ∨ ∃ h x ev, Ls[h]? = some x ∧ EvR ev ∧ σ.2.1 126 i = lL (keyF ev h) ∧ σ.1 127 i = iI (lawV ev x.2)
def LtM (σ : AS) : Prop := ∃ ev, EV σ ev
theorem sc7 : sc 7 0 = 100 ∧ sc 7 1 = 109 ∧ sc 7 2 = 119 ∧ sc 7 3 = 104 ∧ sc 7 4 = 108 ∧ sc 7 5 = 116 := by decide +kernel
theorem lL_rem {a b : Int} (ha : 0 ≤ a ∧ a < 9223372036854775808) (hb : 0 < b ∧ b < 2147483648) : lL a - lL a / lL b * lL b = lL (a % b) := by
  have hd : lL a / lL b = lL (a / b) := by
    apply Int64.toInt_inj.mp
    have h1 : a / b ≤ a := Int.ediv_le_self _ ha.1
    have h0 : 0 ≤ a / b := Int.ediv_nonneg ha.1 (by omega)
    rw [Int64.toInt_div, lL_toInt (by omega), lL_toInt (by omega), lL_toInt (by omega), Int.tdiv_eq_ediv_of_nonneg ha.1, Int.bmod_def]
    simp only [show ((2 : Nat) ^ 64 : Nat) = 18446744073709551616 by decide]
    split <;> omega
  rw [hd, lL_mul, lL_sub]
  congr 1
  have := Int.mul_ediv_add_emod a b
  rw [Int.mul_comm (a / b) b]
  omega
theorem ct_X12_told {l : Launch} {D : va_G} {cA ad : Nat → Nat} {d : Nat} {σ : AS} {K : Option Value → AS → Prop} {s : PS} {i j : Nat} (hR : RO σ) (hT : TwM σ s) (hi7 : nP s ≤ 7) (hi : i < nP s) (hj : j < 9) (hK : K (some (.int (iI (pd s i j)))) σ) : Call l D cA ad d mX12_told [.ref 111, .int (iI i), .int (iI j)] σ K := by
  refine call_go (by decide) (Nat.le_of_ble_eq_true rfl) (show Go l D cA ad d mX12_told 0 [.ref 111, .int (iI i), .int (iI j)] [] σ K from ?_)
  refine go_aload_n dX12_told_0 rfl ?_
  refine go_getR fX12_43 dX12_told_1 rfl (hR _ _ _ rfl) ?_
  refine go_bipush (v := iI 9) dX12_told_4 (by decide) ?_
  refine go_iload_n dX12_told_6 rfl ?_
  refine go_imul dX12_told_7 ?_
  refine go_iload_n dX12_told_8 rfl ?_
  refine go_iadd dX12_told_9 ?_
  refine go_iald dX12_told_10 rfl (by rw [iI_mul, iI_add]; exact vp_iI (by omega)) ?_
  refine go_iret rfl rfl dX12_told_11 ?_
  rw [iI_mul, iI_add, iI_cl (by omega), show (9 * (i : Int) + (j : Int)).toNat = 9 * i + j by omega, hT.2.2.2.1 i j hi hj]
  exact hK

theorem ct_X12_water {l : Launch} {D : va_G} {cA ad : Nat → Nat} {d : Nat} {σ : AS} {K : Option Value → AS → Prop} {w : WT} {c i : Nat} (hc : sh[c]? = some (1, 205)) (hW : WM σ c w) (hi : i < 7) (hK : K (some (.int (iI (wa w i)))) σ) : Call l D cA ad d mX12_water [.ref c, .int (iI i)] σ K := by
  refine call_go (by decide) (Nat.le_of_ble_eq_true rfl) (show Go l D cA ad d mX12_water 0 [.ref c, .int (iI i)] [] σ K from ?_)
  refine go_aload_n dX12_water_0 rfl ?_
  refine go_iconst (v := iI 3) dX12_water_1 (by decide) ?_
  refine go_iload_n dX12_water_2 rfl ?_
  refine go_imul dX12_water_3 ?_
  refine go_iconst (v := iI 0) dX12_water_4 (by decide) ?_
  refine go_iadd dX12_water_5 ?_
  refine go_iald dX12_water_6 hc (by rw [iI_mul, iI_add]; exact vp_iI (by omega)) ?_
  refine go_iret rfl rfl dX12_water_7 ?_
  rw [iI_mul, iI_add, iI_cl (by omega), show (3 * (i : Int) + 0).toNat = 3 * i by omega, (hW.1 i hi).1]
  exact hK

theorem ct_X12_level {l : Launch} {D : va_G} {cA ad : Nat → Nat} {d : Nat} {σ : AS} {K : Option Value → AS → Prop} {s : PS} {w : WT} {c i : Nat} (hR : RO σ) (hT : TwM σ s) (hS : TwK s) (hc : sh[c]? = some (1, 205)) (hW : WM σ c w) (hi : i < nP s) (hK : K (some (.int (iI (lev s w i)))) σ) : Call l D cA ad (d + 1) mX12_level [.ref 111, .ref c, .int (iI i)] σ K := by
  refine call_go (by decide) (Nat.le_of_ble_eq_true rfl) (show Go l D cA ad (d + 1) mX12_level 0 [.ref 111, .ref c, .int (iI i)] [] σ K from ?_)
  refine go_aload_n dX12_level_0 rfl ?_
  refine go_iload_n dX12_level_1 rfl ?_
  refine go_iconst (v := iI 2) dX12_level_2 (by decide) ?_
  refine go_callV (as := [_, _]) wX12_300 dX12_level_3 rfl rfl rfl rfl (Nat.le_of_ble_eq_true rfl) (ct_X12_told hR hT hS.1 hi (by decide) ?_)
  refine go_aload_n dX12_level_6 rfl ?_
  refine go_iload_n dX12_level_7 rfl ?_
  refine go_callS (as := [_, _]) wX12_312 dX12_level_8 rfl rfl (Nat.le_of_ble_eq_true rfl) (ct_X12_water hc hW (by have := hS.1; omega) ?_)
  refine go_iadd dX12_level_11 ?_
  refine go_iret rfl rfl dX12_level_12 ?_
  rw [iI_add]
  exact hK

theorem ct_X12_highOf {l : Launch} {D : va_G} {cA ad : Nat → Nat} {d : Nat} {σ : AS} {K : Option Value → AS → Prop} {s : PS} {w : WT} {c k : Nat} (hR : RO σ) (hT : TwM σ s) (hS : TwK s) (hc : sh[c]? = some (1, 205)) (hW : WM σ c w) (hw : WK s w) (hk : k < nQ s) (hK1 : gapF s w k = 0 → K (some (.int (iI (-1)))) σ) (hK2 : gapF s w k ≠ 0 → K (some (.int (iI (hiE s w k)))) σ) : Call l D cA ad (d + 2) mX12_highOf [.ref 111, .ref c, .int (iI k)] σ K := by
  have hP7 := hS.1
  have hQ9 := hS.2.1
  have hpe := pe_ok hS hk
  have hkq := hS.2.2.2.2 k hk
  unfold PpK at hkq
  refine call_go (by decide) (Nat.le_of_ble_eq_true rfl) (show Go l D cA ad (d + 2) mX12_highOf 0 [.ref 111, .ref c, .int (iI k), .null, .null] [] σ K from ?_)
  refine go_aload_n dX12_highOf_0 rfl ?_
  refine go_getR fX12_49 dX12_highOf_1 rfl (hR _ _ _ rfl) ?_
  refine go_iconst (v := iI 5) dX12_highOf_4 (by decide) ?_
  refine go_iload_n dX12_highOf_5 rfl ?_
  refine go_imul dX12_highOf_6 ?_
  refine go_iald dX12_highOf_7 rfl (by rw [iI_mul]; exact vp_iI (by omega)) ?_
  rw [iI_mul, iI_cl (by omega), show (5 * (k : Int)).toNat = 5 * k + 0 by omega, hT.2.2.2.2 k 0 hk (by decide)]
  rw [hpe.1]
  refine go_istore_n dX12_highOf_8 (Nat.le_of_ble_eq_true rfl) rfl ?_
  refine go_aload_n dX12_highOf_9 rfl ?_
  refine go_getR fX12_49 dX12_highOf_10 rfl (hR _ _ _ rfl) ?_
  refine go_iconst (v := iI 5) dX12_highOf_13 (by decide) ?_
  refine go_iload_n dX12_highOf_14 rfl ?_
  refine go_imul dX12_highOf_15 ?_
  refine go_iconst (v := iI 1) dX12_highOf_16 (by decide) ?_
  refine go_iadd dX12_highOf_17 ?_
  refine go_iald dX12_highOf_18 rfl (by rw [iI_mul, iI_add]; exact vp_iI (by omega)) ?_
  rw [iI_mul, iI_add, iI_cl (by omega), show (5 * (k : Int) + 1).toNat = 5 * k + 1 by omega, hT.2.2.2.2 k 1 hk (by decide)]
  rw [hpe.2.1]
  refine go_istore dX12_highOf_19 (Nat.le_of_ble_eq_true rfl) rfl ?_
  refine go_aload_n dX12_highOf_21 rfl ?_
  refine go_aload_n dX12_highOf_22 rfl ?_
  refine go_iload_n dX12_highOf_23 rfl ?_
  refine go_callV (as := [_, _]) wX12_316 dX12_highOf_24 rfl rfl rfl rfl (Nat.le_of_ble_eq_true rfl) (ct_X12_level hR hT hS hc hW hpe.2.2.1 ?_)
  refine go_aload_n dX12_highOf_27 rfl ?_
  refine go_aload_n dX12_highOf_28 rfl ?_
  refine go_iload dX12_highOf_29 rfl ?_
  refine go_callV (as := [_, _]) wX12_316 dX12_highOf_31 rfl rfl rfl rfl (Nat.le_of_ble_eq_true rfl) (ct_X12_level hR hT hS hc hW hpe.2.2.2.1 ?_)
  refine go_icmp_ne (tgt := 41) dX12_highOf_34 (by decide) (fun h34 => ?_) (fun h34 => ?_)
  · have hl0 := lev_bd hS hw hpe.2.2.1
    have hl1 := lev_bd hS hw hpe.2.2.2.1
    rw [iI_eq (by omega)] at h34
    refine go_aload_n dX12_highOf_41 rfl ?_
    refine go_aload_n dX12_highOf_42 rfl ?_
    refine go_iload_n dX12_highOf_43 rfl ?_
    refine go_callV (as := [_, _]) wX12_316 dX12_highOf_44 rfl rfl rfl rfl (Nat.le_of_ble_eq_true rfl) (ct_X12_level hR hT hS hc hW hpe.2.2.1 ?_)
    refine go_aload_n dX12_highOf_47 rfl ?_
    refine go_aload_n dX12_highOf_48 rfl ?_
    refine go_iload dX12_highOf_49 rfl ?_
    refine go_callV (as := [_, _]) wX12_316 dX12_highOf_51 rfl rfl rfl rfl (Nat.le_of_ble_eq_true rfl) (ct_X12_level hR hT hS hc hW hpe.2.2.2.1 ?_)
    refine go_icmp_le (tgt := 61) dX12_highOf_54 (by decide) (fun h54 => ?_) (fun h54 => ?_)
    · rw [iI_le (by omega)] at h54
      refine go_iload dX12_highOf_61 rfl ?_
      refine go_iret rfl rfl dX12_highOf_63 ?_
      have e : hiE s w k = pe s k 1 := by unfold hiE; rw [if_neg (by omega)]
      have h9 := hK2 (by unfold gapF hiE loE; rw [if_neg (by omega), if_neg (by omega)]; omega)
      rw [e] at h9
      exact h9
    · rw [iI_le (by omega)] at h54
      refine go_iload_n dX12_highOf_57 rfl ?_
      refine go_goto (tgt := 63) dX12_highOf_58 (by decide) ?_
      refine go_iret rfl rfl dX12_highOf_63 ?_
      have e : hiE s w k = pe s k 0 := by unfold hiE; rw [if_pos (by omega)]
      have h9 := hK2 (by unfold gapF hiE loE; rw [if_pos (by omega), if_pos (by omega)]; omega)
      rw [e] at h9
      exact h9
  · have hl0 := lev_bd hS hw hpe.2.2.1
    have hl1 := lev_bd hS hw hpe.2.2.2.1
    rw [iI_eq (by omega)] at h34
    refine go_iconst (v := iI (-1)) dX12_highOf_37 (by decide) ?_
    refine go_goto (tgt := 63) dX12_highOf_38 (by decide) ?_
    refine go_iret rfl rfl dX12_highOf_63 ?_
    exact hK1 (by unfold gapF hiE loE; rw [if_pos (by omega), if_pos (by omega)]; omega)

theorem ct_X12_otherOf {l : Launch} {D : va_G} {cA ad : Nat → Nat} {d : Nat} {σ : AS} {K : Option Value → AS → Prop} {s : PS} {w : WT} {k : Nat} (hR : RO σ) (hT : TwM σ s) (hS : TwK s) (hk : k < nQ s) (hK : K (some (.int (iI (loE s w k)))) σ) : Call l D cA ad d mX12_otherOf [.ref 111, .int (iI k), .int (iI (hiE s w k))] σ K := by
  have hP7 := hS.1
  have hQ9 := hS.2.1
  have hpe := pe_ok hS hk
  have hkq := hS.2.2.2.2 k hk
  unfold PpK at hkq
  have hhl := hiE_ok (w := w) hS hk
  refine call_go (by decide) (Nat.le_of_ble_eq_true rfl) (show Go l D cA ad d mX12_otherOf 0 [.ref 111, .int (iI k), .int (iI (hiE s w k))] [] σ K from ?_)
  refine go_aload_n dX12_otherOf_0 rfl ?_
  refine go_getR fX12_49 dX12_otherOf_1 rfl (hR _ _ _ rfl) ?_
  refine go_iconst (v := iI 5) dX12_otherOf_4 (by decide) ?_
  refine go_iload_n dX12_otherOf_5 rfl ?_
  refine go_imul dX12_otherOf_6 ?_
  refine go_iald dX12_otherOf_7 rfl (by rw [iI_mul]; exact vp_iI (by omega)) ?_
  rw [iI_mul, iI_cl (by omega), show (5 * (k : Int)).toNat = 5 * k + 0 by omega, hT.2.2.2.2 k 0 hk (by decide)]
  rw [hpe.1]
  refine go_iload_n dX12_otherOf_8 rfl ?_
  refine go_icmp_ne (tgt := 25) dX12_otherOf_9 (by decide) (fun h9 => ?_) (fun h9 => ?_)
  · rw [iI_eq (by omega)] at h9
    refine go_aload_n dX12_otherOf_25 rfl ?_
    refine go_getR fX12_49 dX12_otherOf_26 rfl (hR _ _ _ rfl) ?_
    refine go_iconst (v := iI 5) dX12_otherOf_29 (by decide) ?_
    refine go_iload_n dX12_otherOf_30 rfl ?_
    refine go_imul dX12_otherOf_31 ?_
    refine go_iald dX12_otherOf_32 rfl (by rw [iI_mul]; exact vp_iI (by omega)) ?_
    refine go_iret rfl rfl dX12_otherOf_33 ?_
    rw [iI_mul, iI_cl (by omega), show (5 * (k : Int)).toNat = 5 * k + 0 by omega, hT.2.2.2.2 k 0 hk (by decide)]
    rw [hpe.1]
    have e : loE s w k = pe s k 0 := by
      unfold loE
      unfold hiE at h9
      split
      · rename_i q; rw [if_pos q] at h9; omega
      · rfl
    rw [e] at hK
    exact hK
  · rw [iI_eq (by omega)] at h9
    refine go_aload_n dX12_otherOf_12 rfl ?_
    refine go_getR fX12_49 dX12_otherOf_13 rfl (hR _ _ _ rfl) ?_
    refine go_iconst (v := iI 5) dX12_otherOf_16 (by decide) ?_
    refine go_iload_n dX12_otherOf_17 rfl ?_
    refine go_imul dX12_otherOf_18 ?_
    refine go_iconst (v := iI 1) dX12_otherOf_19 (by decide) ?_
    refine go_iadd dX12_otherOf_20 ?_
    refine go_iald dX12_otherOf_21 rfl (by rw [iI_mul, iI_add]; exact vp_iI (by omega)) ?_
    rw [iI_mul, iI_add, iI_cl (by omega), show (5 * (k : Int) + 1).toNat = 5 * k + 1 by omega, hT.2.2.2.2 k 1 hk (by decide)]
    rw [hpe.2.1]
    refine go_goto (tgt := 33) dX12_otherOf_22 (by decide) ?_
    refine go_iret rfl rfl dX12_otherOf_33 ?_
    have e : loE s w k = pe s k 1 := by
      unfold loE
      unfold hiE at h9
      split
      · rfl
      · rename_i q; rw [if_neg q] at h9; omega
    rw [e] at hK
    exact hK

theorem goT_I {σ : AS} {tx b n q k : Nat} {o : Option Int} {w : Int32} {f : Int} (a1 : k ≠ 111) : (msa (md (gv (lbS σ tx b n) o) w) q f).1 k = σ.1 k := by
  rw [msa_ne _ _ _ _ a1, md_ne a1, gv_ne a1]; unfold lbS; rw [sI_ne _ _ _ _ a1, stT_I a1]
theorem vp_updL_same (f : Nat → Int64) (k : Nat) (x : Int64) : vp_updL f k x k = x := by simp [vp_updL]
theorem vp_updL_ne (f : Nat → Int64) (k j : Nat) (x : Int64) (h : j ≠ k) : vp_updL f k x j = f j := by simp [vp_updL, h]
theorem TX_113 {σ : AS} {t : List Nat} {k : Nat} (ht : t.length ≤ 240) (hk : k < 4) (h : ∀ i c : Nat, t[i]? = some c → σ.1 113 (240 * k + i) = sb c) : TX (stT σ 113 (240 * k) t.length) 113 (240 * k) t := by
  refine ⟨rfl, Or.inr ⟨rfl, by omega⟩, ?_, ?_, fun i c hc => ?_⟩
  · unfold stT; rw [sI_same, upd_ne _ _ _ _ (by decide), upd_same]
  · unfold stT; rw [sI_same, upd_same]
  · rw [stT_I (by decide)]; exact h i c hc
theorem ct_X12_worthNow {l : Launch} {D : va_G} {cA ad : Nat → Nat} {d : Nat} {σ : AS} {K : Option Value → AS → Prop} {Ls : LwT} {h : Int} {n : Nat} {ev : Nat → Int} (hR : RO σ) (hLk : LsK Ls h) (hL : LsM σ Ls h) (hMe : MeM σ Ls) (hE : EV σ ev) (hEr : EvR ev) (hh : h = n) (hn : n < Ls.length) (hK : ∀ τ, FrN 127 σ τ → MeM τ Ls → EV τ ev → K (some (.int (iI (lawV ev (Ls[n]).2)))) τ) : Call l D cA ad (d + 32) mX12_worthNow [.ref 111] σ K := by
  have hLk0 := hLk.1
  have hx : Ls[n]? = some Ls[n] := List.getElem?_eq_getElem hn
  have hlk := hLk.2.2.2 _ (List.getElem_mem hn)
  obtain ⟨qq, hlw⟩ := hlk.2.1
  have hkb := key_bd hEr (h := n) (by omega)
  have hEr2 := hEr
  unfold EvR at hEr2
  refine call_go (by decide) (Nat.le_of_ble_eq_true rfl) (show Go l D cA ad (d + 32) mX12_worthNow 0 [.ref 111, .null, .null, .null] [] σ K from ?_)
  refine go_aload_n dX12_worthNow_0 rfl ?_
  refine go_getR fX12_20 dX12_worthNow_1 rfl (hR _ _ _ rfl) ?_
  refine go_bipush (v := iI 116) dX12_worthNow_4 (by decide) ?_
  refine go_iald dX12_worthNow_6 rfl (vp_iI (by decide)) ?_
  rw [show (iI 116).toNatClampNeg = (sc 7 5).toNat by rw [sc7.2.2.2.2.2]; decide, (hE 5 (by decide)).1]
  refine go_i2l dX12_worthNow_7 ?_
  rw [i2l_iI (by omega)]
  refine go_lstore_n dX12_worthNow_8 (Nat.le_of_ble_eq_true rfl) rfl ?_
  simp only [List.set]
  refine go_ldc2 lX12_332 dX12_worthNow_9 ?_
  refine go_lload_n dX12_worthNow_12 rfl ?_
  refine go_lmul dX12_worthNow_13 ?_
  refine go_aload_n dX12_worthNow_14 rfl ?_
  refine go_getR fX12_20 dX12_worthNow_15 rfl (hR _ _ _ rfl) ?_
  refine go_bipush (v := iI 100) dX12_worthNow_18 (by decide) ?_
  refine go_iald dX12_worthNow_20 rfl (vp_iI (by decide)) ?_
  rw [show (iI 100).toNatClampNeg = (sc 7 0).toNat by rw [sc7.1]; decide, (hE 0 (by decide)).1]
  refine go_i2l dX12_worthNow_21 ?_
  rw [i2l_iI (by omega)]
  refine go_ladd dX12_worthNow_22 ?_
  rw [show (110 : Int64) = lL 110 from rfl, lL_mul, lL_add]
  refine go_lstore_n dX12_worthNow_23 (Nat.le_of_ble_eq_true rfl) rfl ?_
  simp only [List.set]
  refine go_ldc2 lX12_334 dX12_worthNow_24 ?_
  refine go_lload_n dX12_worthNow_27 rfl ?_
  refine go_lmul dX12_worthNow_28 ?_
  refine go_aload_n dX12_worthNow_29 rfl ?_
  refine go_getR fX12_20 dX12_worthNow_30 rfl (hR _ _ _ rfl) ?_
  refine go_bipush (v := iI 109) dX12_worthNow_33 (by decide) ?_
  refine go_iald dX12_worthNow_35 rfl (vp_iI (by decide)) ?_
  rw [show (iI 109).toNatClampNeg = (sc 7 1).toNat by rw [sc7.2.1]; decide, (hE 1 (by decide)).1]
  refine go_i2l dX12_worthNow_36 ?_
  rw [i2l_iI (by omega)]
  refine go_ladd dX12_worthNow_37 ?_
  rw [show (10 : Int64) = lL 10 from rfl, lL_mul, lL_add]
  refine go_lstore_n dX12_worthNow_38 (Nat.le_of_ble_eq_true rfl) rfl ?_
  simp only [List.set]
  refine go_ldc2 lX12_336 dX12_worthNow_39 ?_
  refine go_lload_n dX12_worthNow_42 rfl ?_
  refine go_lmul dX12_worthNow_43 ?_
  refine go_aload_n dX12_worthNow_44 rfl ?_
  refine go_getR fX12_20 dX12_worthNow_45 rfl (hR _ _ _ rfl) ?_
  refine go_bipush (v := iI 119) dX12_worthNow_48 (by decide) ?_
  refine go_iald dX12_worthNow_50 rfl (vp_iI (by decide)) ?_
  rw [show (iI 119).toNatClampNeg = (sc 7 2).toNat by rw [sc7.2.2.1]; decide, (hE 2 (by decide)).1]
  refine go_i2l dX12_worthNow_51 ?_
  rw [i2l_iI (by omega)]
  refine go_ladd dX12_worthNow_52 ?_
  rw [show (100 : Int64) = lL 100 from rfl, lL_mul, lL_add]
  refine go_lstore_n dX12_worthNow_53 (Nat.le_of_ble_eq_true rfl) rfl ?_
  simp only [List.set]
  refine go_ldc2 lX12_336 dX12_worthNow_54 ?_
  refine go_lload_n dX12_worthNow_57 rfl ?_
  refine go_lmul dX12_worthNow_58 ?_
  refine go_aload_n dX12_worthNow_59 rfl ?_
  refine go_getR fX12_20 dX12_worthNow_60 rfl (hR _ _ _ rfl) ?_
  refine go_bipush (v := iI 104) dX12_worthNow_63 (by decide) ?_
  refine go_iald dX12_worthNow_65 rfl (vp_iI (by decide)) ?_
  rw [show (iI 104).toNatClampNeg = (sc 7 3).toNat by rw [sc7.2.2.2.1]; decide, (hE 3 (by decide)).1]
  refine go_i2l dX12_worthNow_66 ?_
  rw [i2l_iI (by omega)]
  refine go_ladd dX12_worthNow_67 ?_
  rw [show (100 : Int64) = lL 100 from rfl, lL_mul, lL_add]
  refine go_lstore_n dX12_worthNow_68 (Nat.le_of_ble_eq_true rfl) rfl ?_
  simp only [List.set]
  refine go_ldc2 lX12_336 dX12_worthNow_69 ?_
  refine go_lload_n dX12_worthNow_72 rfl ?_
  refine go_lmul dX12_worthNow_73 ?_
  refine go_aload_n dX12_worthNow_74 rfl ?_
  refine go_getR fX12_20 dX12_worthNow_75 rfl (hR _ _ _ rfl) ?_
  refine go_bipush (v := iI 108) dX12_worthNow_78 (by decide) ?_
  refine go_iald dX12_worthNow_80 rfl (vp_iI (by decide)) ?_
  rw [show (iI 108).toNatClampNeg = (sc 7 4).toNat by rw [sc7.2.2.2.2.1]; decide, (hE 4 (by decide)).1]
  refine go_i2l dX12_worthNow_81 ?_
  rw [i2l_iI (by omega)]
  refine go_ladd dX12_worthNow_82 ?_
  rw [show (100 : Int64) = lL 100 from rfl, lL_mul, lL_add]
  refine go_lstore_n dX12_worthNow_83 (Nat.le_of_ble_eq_true rfl) rfl ?_
  simp only [List.set]
  refine go_ldc2 lX12_338 dX12_worthNow_84 ?_
  refine go_lload_n dX12_worthNow_87 rfl ?_
  refine go_lmul dX12_worthNow_88 ?_
  refine go_aload_n dX12_worthNow_89 rfl ?_
  refine go_getI fX12_67 dX12_worthNow_90 rfl ?_
  refine go_i2l dX12_worthNow_93 ?_
  rw [hL.2.1, hh, i2l_iI (by omega)]
  refine go_ladd dX12_worthNow_94 ?_
  rw [show (5 : Int64) = lL 5 from rfl, lL_mul, lL_add]
  refine go_lconst (v := 1) dX12_worthNow_95 (by decide) ?_
  refine go_ladd dX12_worthNow_96 ?_
  rw [show (1 : Int64) = lL 1 from rfl, lL_add]
  have hkey : 5 * (100 * (100 * (100 * (10 * (110 * ev 5 + ev 0) + ev 1) + ev 2) + ev 3) + ev 4) + (n : Int) + 1 = keyF ev n := by unfold keyF; omega
  rw [hkey]
  refine go_lstore_n dX12_worthNow_97 (Nat.le_of_ble_eq_true rfl) rfl ?_
  simp only [List.set]
  refine go_lload_n dX12_worthNow_98 rfl ?_
  refine go_ldc2 lX12_340 dX12_worthNow_99 ?_
  refine go_lrem dX12_worthNow_102 (by decide) ?_
  refine go_l2i dX12_worthNow_103 ?_
  rw [show (8191 : Int64) = lL 8191 from rfl, lL_rem (by omega) (by decide), l2i_lL]
  obtain ⟨sp, hsp⟩ : ∃ sp : Nat, keyF ev n % 8191 = sp := ⟨(keyF ev n % 8191).toNat, by omega⟩
  have hsp2 : sp < 8191 := by omega
  rw [hsp]
  refine go_istore_n dX12_worthNow_104 (Nat.le_of_ble_eq_true rfl) rfl ?_
  simp only [List.set]
  refine go_aload_n dX12_worthNow_105 rfl ?_
  refine go_getR fX12_74 dX12_worthNow_106 rfl (hR _ _ _ rfl) ?_
  refine go_iload_n dX12_worthNow_109 rfl ?_
  refine go_lald dX12_worthNow_110 rfl (vp_iI (by omega)) ?_
  refine go_lload_n dX12_worthNow_111 rfl ?_
  refine go_lcmp dX12_worthNow_112 ?_
  refine go_if_ne (tgt := 123) dX12_worthNow_113 (by decide) (fun h113 => ?_) (fun h113 => ?_)
  · rw [lcmp0, cl_n _ (by omega)] at h113
    refine go_aload_n dX12_worthNow_123 rfl ?_
    refine go_aload_n dX12_worthNow_124 rfl ?_
    refine go_getR fX12_13 dX12_worthNow_125 rfl (hR _ _ _ rfl) ?_
    refine go_sipush (v := iI 240) dX12_worthNow_128 (by decide) ?_
    refine go_aload_n dX12_worthNow_131 rfl ?_
    refine go_getI fX12_67 dX12_worthNow_132 rfl ?_
    refine go_imul dX12_worthNow_135 ?_
    refine go_aload_n dX12_worthNow_136 rfl ?_
    refine go_getR fX12_16 dX12_worthNow_137 rfl (hR _ _ _ rfl) ?_
    refine go_aload_n dX12_worthNow_140 rfl ?_
    refine go_getI fX12_67 dX12_worthNow_141 rfl ?_
    refine go_iald dX12_worthNow_144 rfl (by rw [hL.2.1, hh]; exact vp_iI (by omega)) ?_
    rw [hL.2.1, hh, iI_mul, show (240 * (n : Int)) = ((240 * n : Nat) : Int) by omega, cl_n _ (by omega), (hL.2.2 n _ hx).1]
    have hX : TX (stT σ 113 (240 * n) (Ls[n]).1.length) 113 (240 * n) (Ls[n]).1 := TX_113 hlk.1.1 (by omega) (hL.2.2 n _ hx).2
    refine go_callV (as := [_, _, _]) wX12_280 dX12_worthNow_145 rfl rfl rfl rfl (Nat.le_of_ble_eq_true rfl) (ct_X12_goThrough (ev := ev) hlk.1 hR hX hE (fun q o w hq _ => ?_) (fun q L hq _ => ?_))
    · exfalso
      rw [hq] at hlw
      cases hlw
    · rw [hq] at hlw
      obtain rfl : L = (Ls[n]).2 := by cases hlw; rfl
      have frT : FrN 127 σ (msa (md (gv (lbS σ 113 (240 * n) (Ls[n]).1.length) ((Ls[n]).2.foldl (nxC ev) none)) (dw 6)) q (-1)) := FrN.goT
      have hfd : (msa (md (gv (lbS σ 113 (240 * n) (Ls[n]).1.length) ((Ls[n]).2.foldl (nxC ev) none)) (dw 6)) q (-1)).1 111 14 = iI (lawV ev (Ls[n]).2) := by rw [msa_fd _ _ _ _ (by decide) (by decide), md_fd (by decide), gv_f, lawV_fold]
      have hRT := frT.RO hR
      have hT0 : (msa (md (gv (lbS σ 113 (240 * n) (Ls[n]).1.length) ((Ls[n]).2.foldl (nxC ev) none)) (dw 6)) q (-1)).1 115 = σ.1 115 := goT_I (by decide)
      have hT1 : (msa (md (gv (lbS σ 113 (240 * n) (Ls[n]).1.length) ((Ls[n]).2.foldl (nxC ev) none)) (dw 6)) q (-1)).1 127 = σ.1 127 := goT_I (by decide)
      have hT2 : ∀ k, (msa (md (gv (lbS σ 113 (240 * n) (Ls[n]).1.length) ((Ls[n]).2.foldl (nxC ev) none)) (dw 6)) q (-1)).2.1 k = σ.2.1 k := fun k => rfl
      generalize msa (md (gv (lbS σ 113 (240 * n) (Ls[n]).1.length) ((Ls[n]).2.foldl (nxC ev) none)) (dw 6)) q (-1) = τ at frT hfd hRT hT0 hT1 hT2 ⊢
      refine go_aload_n dX12_worthNow_148 rfl ?_
      refine go_getR fX12_74 dX12_worthNow_149 rfl (hRT _ _ _ rfl) ?_
      refine go_iload_n dX12_worthNow_152 rfl ?_
      refine go_lload_n dX12_worthNow_153 rfl ?_
      refine go_last dX12_worthNow_154 rfl (vp_iI (by omega)) ?_
      refine go_aload_n dX12_worthNow_155 rfl ?_
      refine go_getR fX12_78 dX12_worthNow_156 rfl (RO_sL hRT _ _ _ rfl) ?_
      refine go_iload_n dX12_worthNow_159 rfl ?_
      refine go_aload_n dX12_worthNow_160 rfl ?_
      refine go_getI fX12_204 dX12_worthNow_161 rfl ?_
      refine go_iast dX12_worthNow_164 rfl (vp_iI (by omega)) ?_
      refine go_aload_n dX12_worthNow_165 rfl ?_
      refine go_getI fX12_204 dX12_worthNow_166 rfl ?_
      refine go_iret rfl rfl dX12_worthNow_169 ?_
      rw [sI_ne _ _ _ _ (by decide)]
      have hfd2 : (sL τ 126 (vp_updL (τ.2.1 126) (iI (sp : Int)).toNatClampNeg (lL (keyF ev n)))).1 111 14 = iI (lawV ev (Ls[n]).2) := hfd
      rw [hfd2]
      refine hK _ (frT.sL.sI (Or.inr (Or.inl rfl)) (by decide)) (fun i hi => ?_) (fun j hj => ?_)
      · by_cases hi2 : i = sp
        · right
          refine ⟨n, _, ev, hx, hEr, ?_, ?_⟩
          · rw [hi2]
            show (if 126 = 126 then vp_updL (τ.2.1 126) (iI (sp : Int)).toNatClampNeg (lL (keyF ev n)) else τ.2.1 126) sp = _
            rw [if_pos rfl, cl_n _ (by omega)]
            exact vp_updL_same _ _ _
          · rw [sI_same, hi2, cl_n _ (by omega), upd_same]
        · have e1 : (sI (sL τ 126 (vp_updL (τ.2.1 126) (iI (sp : Int)).toNatClampNeg (lL (keyF ev n)))) 127 (upd ((sL τ 126 (vp_updL (τ.2.1 126) (iI (sp : Int)).toNatClampNeg (lL (keyF ev n)))).1 127) (iI (sp : Int)).toNatClampNeg (iI (lawV ev (Ls[n]).2)))).2.1 126 i = σ.2.1 126 i := by
            show (if 126 = 126 then vp_updL (τ.2.1 126) (iI (sp : Int)).toNatClampNeg (lL (keyF ev n)) else τ.2.1 126) i = _
            rw [if_pos rfl, cl_n _ (by omega)]
            exact (vp_updL_ne _ _ _ _ hi2).trans (congrFun (hT2 126) i)
          rw [e1, sI_same, cl_n _ (by omega), upd_ne _ _ _ _ hi2]
          have e2 : (sL τ 126 (vp_updL (τ.2.1 126) sp (lL (keyF ev n)))).1 127 i = σ.1 127 i := congrFun hT1 i
          rw [e2]
          exact hMe i hi
      · rw [sI_ne _ _ _ _ (by decide)]
        have e3 : (sL τ 126 (vp_updL (τ.2.1 126) (iI (sp : Int)).toNatClampNeg (lL (keyF ev n)))).1 115 = σ.1 115 := hT0
        rw [e3]
        exact hE j hj
  · rw [lcmp0, cl_n _ (by omega)] at h113
    refine go_aload_n dX12_worthNow_116 rfl ?_
    refine go_getR fX12_78 dX12_worthNow_117 rfl (hR _ _ _ rfl) ?_
    refine go_iload_n dX12_worthNow_120 rfl ?_
    refine go_iald dX12_worthNow_121 rfl (vp_iI (by omega)) ?_
    refine go_iret rfl rfl dX12_worthNow_122 ?_
    rw [cl_n _ (by omega)]
    have e : σ.1 127 sp = iI (lawV ev (Ls[n]).2) := by
      rcases hMe sp hsp2 with e0 | ⟨h', x', ev', hx', he', hk', hv'⟩
      · rw [e0, lL_0, lL_eq (by decide) (by omega)] at h113; omega
      · have hn' := (List.getElem?_eq_some_iff.mp hx').1
        have hkb := key_bd he' (h := h') (by omega)
        rw [hk', lL_eq (by omega) (by omega)] at h113
        obtain ⟨rfl, hev⟩ := key_inj he' hEr (by omega) (by omega) h113
        rw [hx] at hx'
        cases hx'
        rw [hv', lawV_cg hev _ hlk.2.2.2]
    rw [e]
    exact hK σ FrN.rf hMe hE

