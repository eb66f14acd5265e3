/-! the class: fault, text -/
def ff {α : Type} (r : Nat × Option α) : Int := match r.2 with
  | some _ => -1
  | none => (r.1 : Int)
theorem ff_n {α : Type} {q : Nat} {r : Nat × Option α} (h : r = (q, none)) : ff r = q := by rw [h]; rfl
theorem ff_s {α : Type} {q : Nat} {x : α} {r : Nat × Option α} (h : r = (q, some x)) : ff r = -1 := by rw [h]; rfl
def fltA (X : XS) (a : Int) : Int := if a = 0 then ff (twS (xt X) 242 0 ps0) else if a = 1 then ff (lwS (xt X) 242 0 []) else if a = 2 then ff (plS (xt X) 17 0 []) else -2
theorem QF.fr {lo hi : Nat} {σ τ : AS} (h : Fr lo hi σ τ) (hh : hi < 111) (h2 : ∀ k, lo ≤ k → k ≤ hi → ¬ uC k ∧ k ≠ 1) : QF σ τ := by
  refine ⟨h.1, fun k hk => h.2 k (by omega), fun k hk => ?_, fun j _ => ?_⟩
  · by_cases c : lo ≤ k ∧ k ≤ hi
    · exact absurd hk (h2 k c.1 c.2).1
    · exact h.2 k (by omega)
  · by_cases c : lo ≤ 1 ∧ 1 ≤ hi
    · exact absurd rfl (h2 1 c.1 c.2).2
    · rw [h.2 1 (by omega)]
theorem QF.t {σ τ : AS} (h : Fr 23 42 σ τ) : QF σ τ := QF.fr h (by decide) (fun k h1 h2 => ⟨by unfold uC; omega, by omega⟩)
theorem QF.g {σ τ : AS} (h : Fr 44 45 σ τ) : QF σ τ := QF.fr h (by decide) (fun k h1 h2 => ⟨by unfold uC; omega, by omega⟩)
theorem QF.p {σ τ : AS} (h : Fr 83 86 σ τ) : QF σ τ := QF.fr h (by decide) (fun k h1 h2 => ⟨by unfold uC; omega, by omega⟩)
theorem ct_fault0 {l : Launch} {D : va_G} {cA ad : Nat → Nat} {d : Nat} {σ : AS} {K : Option Value → AS → Prop} {X : XS} (hR : RO σ) (hK0 : XK X) (hC : CI σ X) (hK : ∀ τ, QF σ τ → K (some (.int (iI (fltA X 0)))) τ) : Call l D cA ad (d + 37) mX11_fault [.ref 0, .int (iI 0)] σ K := by
  refine call_go (by decide) (Nat.le_of_ble_eq_true rfl) (show Go l D cA ad (d + 37) mX11_fault 0 [.ref 0, .int (iI 0), .null] [] σ K from ?_)
  refine go_iload_n dX11_fault_0 rfl ?_
  refine go_tabIn (off := 27) (tgt := 28) dX11_fault_1 (by decide) (by decide) (by decide) (by decide) ?_
  refine go_aload_n dX11_fault_28 rfl ?_
  refine go_getR fX11_23 dX11_fault_29 rfl (hR _ _ _ rfl) ?_
  refine go_aload_n dX11_fault_32 rfl ?_
  refine go_getR fX11_10 dX11_fault_33 rfl (hR _ _ _ rfl) ?_
  refine go_callV (as := [_]) wX11_113 dX11_fault_36 rfl rfl rfl rfl (Nat.le_of_ble_eq_true rfl) (ct_X9_readFrom hK0.t hR hC.1 (fun q τ fr e => ?_) (fun q s τ fr e hs hp hg => ?_))
  · refine go_istore_n dX11_fault_39 (Nat.le_of_ble_eq_true rfl) rfl ?_
    refine go_goto (tgt := 72) dX11_fault_40 (by decide) ?_
    refine go_iload_n dX11_fault_72 rfl ?_
    refine go_if_eq (tgt := 80) dX11_fault_73 (by decide) (fun h73 => ?_) (fun h73 => ?_)
    · refine go_aload_n dX11_fault_80 rfl ?_
      refine go_getR fX11_10 dX11_fault_81 rfl (RO_atc (fr.RO hR) _ _ _ rfl) ?_
      refine go_getI fX11_122 dX11_fault_84 rfl ?_
      rw [atc_at]
      refine go_iret rfl rfl dX11_fault_87 ?_
      have ea : fltA X 0 = q := by unfold fltA; rw [if_pos rfl]; exact ff_n e
      rw [ea] at hK
      exact hK _ (QF.t fr).at
    · exact absurd h73 (by decide)
  · refine go_istore_n dX11_fault_39 (Nat.le_of_ble_eq_true rfl) rfl ?_
    refine go_goto (tgt := 72) dX11_fault_40 (by decide) ?_
    refine go_iload_n dX11_fault_72 rfl ?_
    refine go_if_eq (tgt := 80) dX11_fault_73 (by decide) (fun h73 => ?_) (fun h73 => ?_)
    · exact absurd h73 (by decide)
    · refine go_iconst (v := iI (-1)) dX11_fault_76 (by decide) ?_
      refine go_goto (tgt := 87) dX11_fault_77 (by decide) ?_
      refine go_iret rfl rfl dX11_fault_87 ?_
      have ea : fltA X 0 = -1 := by unfold fltA; rw [if_pos rfl]; exact ff_s e
      rw [ea] at hK
      exact hK _ (QF.t fr).at

theorem ct_fault1 {l : Launch} {D : va_G} {cA ad : Nat → Nat} {d : Nat} {σ : AS} {K : Option Value → AS → Prop} {X : XS} (hR : RO σ) (hK0 : XK X) (hC : CI σ X) (hK : ∀ τ, QF σ τ → K (some (.int (iI (fltA X 1)))) τ) : Call l D cA ad (d + 37) mX11_fault [.ref 0, .int (iI 1)] σ K := by
  refine call_go (by decide) (Nat.le_of_ble_eq_true rfl) (show Go l D cA ad (d + 37) mX11_fault 0 [.ref 0, .int (iI 1), .null] [] σ K from ?_)
  refine go_iload_n dX11_fault_0 rfl ?_
  refine go_tabIn (off := 42) (tgt := 43) dX11_fault_1 (by decide) (by decide) (by decide) (by decide) ?_
  refine go_aload_n dX11_fault_43 rfl ?_
  refine go_getR fX11_31 dX11_fault_44 rfl (hR _ _ _ rfl) ?_
  refine go_callV (as := []) wX11_117 dX11_fault_47 rfl rfl rfl rfl (Nat.le_of_ble_eq_true rfl) (ct_X4_readLaw hK0.t hR hC.1 (fun q τ fr e => ?_) (fun q L τ fr e hl hn => ?_))
  · refine go_istore_n dX11_fault_50 (Nat.le_of_ble_eq_true rfl) rfl ?_
    refine go_goto (tgt := 72) dX11_fault_51 (by decide) ?_
    refine go_iload_n dX11_fault_72 rfl ?_
    refine go_if_eq (tgt := 80) dX11_fault_73 (by decide) (fun h73 => ?_) (fun h73 => ?_)
    · refine go_aload_n dX11_fault_80 rfl ?_
      refine go_getR fX11_10 dX11_fault_81 rfl (RO_atc (fr.RO hR) _ _ _ rfl) ?_
      refine go_getI fX11_122 dX11_fault_84 rfl ?_
      rw [atc_at]
      refine go_iret rfl rfl dX11_fault_87 ?_
      have ea : fltA X 1 = q := by unfold fltA; rw [if_neg (by decide), if_pos rfl]; exact ff_n e
      rw [ea] at hK
      exact hK _ (QF.g fr).at
    · exact absurd h73 (by decide)
  · refine go_istore_n dX11_fault_50 (Nat.le_of_ble_eq_true rfl) rfl ?_
    refine go_goto (tgt := 72) dX11_fault_51 (by decide) ?_
    refine go_iload_n dX11_fault_72 rfl ?_
    refine go_if_eq (tgt := 80) dX11_fault_73 (by decide) (fun h73 => ?_) (fun h73 => ?_)
    · exact absurd h73 (by decide)
    · refine go_iconst (v := iI (-1)) dX11_fault_76 (by decide) ?_
      refine go_goto (tgt := 87) dX11_fault_77 (by decide) ?_
      refine go_iret rfl rfl dX11_fault_87 ?_
      have ea : fltA X 1 = -1 := by unfold fltA; rw [if_neg (by decide), if_pos rfl]; exact ff_s e
      rw [ea] at hK
      exact hK _ (QF.g fr).at

theorem ct_fault2 {l : Launch} {D : va_G} {cA ad : Nat → Nat} {d : Nat} {σ : AS} {K : Option Value → AS → Prop} {X : XS} (hR : RO σ) (hK0 : XK X) (hC : CI σ X) (hK : ∀ τ, QF σ τ → K (some (.int (iI (fltA X 2)))) τ) : Call l D cA ad (d + 37) mX11_fault [.ref 0, .int (iI 2)] σ K := by
  refine call_go (by decide) (Nat.le_of_ble_eq_true rfl) (show Go l D cA ad (d + 37) mX11_fault 0 [.ref 0, .int (iI 2), .null] [] σ K from ?_)
  refine go_iload_n dX11_fault_0 rfl ?_
  refine go_tabIn (off := 53) (tgt := 54) dX11_fault_1 (by decide) (by decide) (by decide) (by decide) ?_
  refine go_aload_n dX11_fault_54 rfl ?_
  refine go_getR fX11_51 dX11_fault_55 rfl (hR _ _ _ rfl) ?_
  refine go_aload_n dX11_fault_58 rfl ?_
  refine go_getR fX11_10 dX11_fault_59 rfl (hR _ _ _ rfl) ?_
  refine go_callV (as := [_]) wX11_121 dX11_fault_62 rfl rfl rfl rfl (Nat.le_of_ble_eq_true rfl) (ct_X7_readFrom hK0.t hR hC.1 (fun q τ fr e => ?_) (fun q L τ fr e hp hl => ?_))
  · refine go_istore_n dX11_fault_65 (Nat.le_of_ble_eq_true rfl) rfl ?_
    refine go_goto (tgt := 72) dX11_fault_66 (by decide) ?_
    refine go_iload_n dX11_fault_72 rfl ?_
    refine go_if_eq (tgt := 80) dX11_fault_73 (by decide) (fun h73 => ?_) (fun h73 => ?_)
    · refine go_aload_n dX11_fault_80 rfl ?_
      refine go_getR fX11_10 dX11_fault_81 rfl (RO_atc (fr.RO hR) _ _ _ rfl) ?_
      refine go_getI fX11_122 dX11_fault_84 rfl ?_
      rw [atc_at]
      refine go_iret rfl rfl dX11_fault_87 ?_
      have ea : fltA X 2 = q := by unfold fltA; rw [if_neg (by decide), if_neg (by decide), if_pos rfl]; exact ff_n e
      rw [ea] at hK
      exact hK _ (QF.p fr).at
    · exact absurd h73 (by decide)
  · refine go_istore_n dX11_fault_65 (Nat.le_of_ble_eq_true rfl) rfl ?_
    refine go_goto (tgt := 72) dX11_fault_66 (by decide) ?_
    refine go_iload_n dX11_fault_72 rfl ?_
    refine go_if_eq (tgt := 80) dX11_fault_73 (by decide) (fun h73 => ?_) (fun h73 => ?_)
    · exact absurd h73 (by decide)
    · refine go_iconst (v := iI (-1)) dX11_fault_76 (by decide) ?_
      refine go_goto (tgt := 87) dX11_fault_77 (by decide) ?_
      refine go_iret rfl rfl dX11_fault_87 ?_
      have ea : fltA X 2 = -1 := by unfold fltA; rw [if_neg (by decide), if_neg (by decide), if_pos rfl]; exact ff_s e
      rw [ea] at hK
      exact hK _ (QF.p fr).at

theorem ct_X11_fault {l : Launch} {D : va_G} {cA ad : Nat → Nat} {d : Nat} {σ : AS} {K : Option Value → AS → Prop} {X : XS} {a : Int} (hR : RO σ) (hK0 : XK X) (hC : CI σ X) (ha32 : -2147483648 ≤ a ∧ a < 2147483648) (hK : ∀ τ, QF σ τ → K (some (.int (iI (fltA X a)))) τ) : Call l D cA ad (d + 37) mX11_fault [.ref 0, .int (iI a)] σ K := by
  by_cases h : 0 ≤ a ∧ a ≤ 2
  · rcases (show a = 0 ∨ a = 1 ∨ a = 2 by omega) with rfl | rfl | rfl
    · exact ct_fault0 hR hK0 hC hK
    · exact ct_fault1 hR hK0 hC hK
    · exact ct_fault2 hR hK0 hC hK
  refine call_go (by decide) (Nat.le_of_ble_eq_true rfl) (show Go l D cA ad (d + 37) mX11_fault 0 [.ref 0, .int (iI a), .null] [] σ K from ?_)
  refine go_iload_n dX11_fault_0 rfl ?_
  refine go_tabOut (tgt := 69) dX11_fault_1 (by rw [iI_toInt (by omega) (by omega)]; omega) (by decide) ?_
  refine go_bipush (v := iI (-2)) dX11_fault_69 (by decide) ?_
  refine go_iret rfl rfl dX11_fault_71 ?_
  have ea : fltA X a = -2 := by unfold fltA; rw [if_neg (by omega), if_neg (by omega), if_neg (by omega)]
  rw [ea] at hK
  exact hK σ QF.rf
/-- rows of the town tried are the town's -/
def BcR (σ τ : AS) (n m : Nat) : Prop := Fr 3 22 σ τ ∧ (∀ j, j < 3 → τ.1 4 j = σ.1 24 j) ∧ (∀ i j, i < n → j < 9 → τ.1 (6 + i) j = σ.1 (26 + i) j) ∧ (∀ i j, i < m → j < 5 → τ.1 (14 + i) j = σ.1 (34 + i) j)
theorem BcR_p {σ τ : AS} {n : Nat} {r : Nat → Int32} (h : BcR σ τ n 0) (hn : n < 7) (hr : ∀ i, i < 9 → r i = τ.1 (26 + n) i) : BcR σ (sI τ (6 + n) r) (n + 1) 0 := by
  refine ⟨h.1.sI (by omega) (by omega), fun j hj => by rw [sI_ne _ _ _ _ (by omega)]; exact h.2.1 j hj, fun i j hi hj => ?_, fun i j hi => absurd hi (Nat.not_lt_zero _)⟩
  by_cases c : i = n
  · subst c; rw [sI_same, hr j hj, h.1.2 _ (by omega)]
  · rw [sI_ne _ _ _ _ (by omega)]; exact h.2.2.1 i j (by omega) hj
theorem BcR_q {σ τ : AS} {m : Nat} {r : Nat → Int32} (h : BcR σ τ 7 m) (hn : m < 9) (hr : ∀ i, i < 5 → r i = τ.1 (34 + m) i) : BcR σ (sI τ (14 + m) r) 7 (m + 1) := by
  refine ⟨h.1.sI (by omega) (by omega), fun j hj => by rw [sI_ne _ _ _ _ (by omega)]; exact h.2.1 j hj, fun i j hi hj => by rw [sI_ne _ _ _ _ (by omega)]; exact h.2.2.1 i j hi hj, fun i j hi hj => ?_⟩
  by_cases c : i = m
  · subst c; rw [sI_same, hr j hj, h.1.2 _ (by omega)]
  · rw [sI_ne _ _ _ _ (by omega)]; exact h.2.2.2 i j (by omega) hj
theorem BcR_t {σ τ : AS} {s : PS} {f : Nat → Int32} (h : BcR σ τ 7 9) (hs : PSC σ s) (hp : POK s) (h4 : f 4 = σ.1 23 4) (h5 : f 5 = σ.1 23 5) : TwC (sI τ 3 f) s := by
  obtain ⟨p1, p2, p3, p4, p5, p6⟩ := hs
  have q := hp.2.1
  have q2 := hp.2.2.1
  refine ⟨by rw [sI_same, h4]; exact p2, by rw [sI_same, h5]; exact p3, fun j hj => by rw [sI_ne _ _ _ _ (by omega), h.2.1 j hj]; exact p4 j hj, fun i j hi hj => ?_, fun i j hi hj => ?_⟩
  · have hi : i < s.2.1 := hi
    rw [sI_ne _ _ _ _ (by omega), h.2.2.1 i j (by omega) hj]; exact p5 i j hi hj
  · have hi : i < s.2.2.1 := hi
    rw [sI_ne _ _ _ _ (by omega), h.2.2.2 i j (by omega) hj]; exact p6 i j hi hj
theorem BcR_t' {σ τ : AS} {s : PS} (h : BcR σ τ 7 9) (hs : PSC σ s) (hp : POK s) (e : ∀ j, τ.1 23 j = σ.1 23 j) : TwC (sI (sI τ 3 (upd (τ.1 3) 4 (τ.1 23 4))) 3 (upd ((sI τ 3 (upd (τ.1 3) 4 (τ.1 23 4))).1 3) 5 ((sI τ 3 (upd (τ.1 3) 4 (τ.1 23 4))).1 23 5))) s := by
  rw [sI_sI]
  refine BcR_t h hs hp ?_ ?_
  · rw [upd_ne _ _ _ _ (by decide), sI_same, upd_same]; exact e 4
  · rw [upd_same, sI_ne _ _ _ _ (by decide)]; exact e 5
theorem bc42 {l : Launch} {D : va_G} {cA ad : Nat → Nat} {d : Nat} {σ : AS} {K : Option Value → AS → Prop} {s : PS} (hR : RO σ) (hs : PSC σ s) (hp : POK s) (hK : ∀ τ, Fr 3 22 σ τ → TwC τ s → K none τ) : ∀ (r i : Nat) (τ : AS), r + i = 9 → BcR σ τ 7 i → Go l D cA ad (d + 2) mX9_become 42 [.ref 3, .ref 23, .int (iI i)] [] τ K := by
  intro r
  induction r with
  | zero =>
    intro i τ hr h
    obtain rfl : i = 9 := by omega
    refine go_iload_n dX9_become_42 rfl ?_
    refine go_bipush (v := iI 9) dX9_become_43 (by decide) ?_
    refine go_icmp_ge (tgt := 69) dX9_become_45 (by decide) (fun h45 => ?_) (fun h45 => ?_)
    · refine go_aload_n dX9_become_69 rfl ?_
      refine go_aload_n dX9_become_70 rfl ?_
      refine go_getI fX9_35 dX9_become_71 rfl ?_
      refine go_putI fX9_35 rfl dX9_become_74 rfl rfl rfl ?_
      refine go_aload_n dX9_become_77 rfl ?_
      refine go_aload_n dX9_become_78 rfl ?_
      refine go_getI fX9_39 dX9_become_79 rfl ?_
      refine go_putI fX9_39 rfl dX9_become_82 rfl rfl rfl ?_
      refine go_vret rfl dX9_become_85 ?_
      have e23 : ∀ j, τ.1 23 j = σ.1 23 j := fun j => by rw [h.1.2 23 (by decide)]
      refine hK _ ?_ (BcR_t' h hs hp e23)
      exact (h.1.sI (by decide) (by decide)).sI (by decide) (by decide)
    · exact absurd (by decide) h45
  | succ r ih =>
    intro i τ hr h
    refine go_iload_n dX9_become_42 rfl ?_
    refine go_bipush (v := iI 9) dX9_become_43 (by decide) ?_
    refine go_icmp_ge (tgt := 69) dX9_become_45 (by decide) (fun h45 => ?_) (fun h45 => ?_)
    · exfalso
      rw [iI_le (by omega)] at h45
      omega
    · refine go_aload_n dX9_become_48 rfl ?_
      refine go_getR fX9_32 dX9_become_49 rfl (h.1.RO hR _ _ _ rfl) ?_
      refine go_iload_n dX9_become_52 rfl ?_
      refine go_aald dX9_become_53 rfl (by decide) (vp_iI (by omega)) (by rw [cl_n _ (by omega)]; exact h.1.RO hR _ _ _ (r33 i (by omega)).1) ?_
      refine go_aload_n dX9_become_54 rfl ?_
      refine go_getR fX9_32 dX9_become_55 rfl (h.1.RO hR _ _ _ rfl) ?_
      refine go_iload_n dX9_become_58 rfl ?_
      refine go_aald dX9_become_59 rfl (by decide) (vp_iI (by omega)) (by rw [cl_n _ (by omega)]; exact h.1.RO hR _ _ _ (r33 i (by omega)).2.2.1) ?_
      refine go_callS (as := [_, _]) wX9_42 dX9_become_60 rfl rfl (Nat.le_of_ble_eq_true rfl) (ct_X9_copyRow (k0 := 34 + i) (rw := 14 + i) (n := 5) (r33 i (by omega)).2.1 (r33 i (by omega)).2.2.2 (by decide) (fun r hr => ?_))
      refine go_iincI dX9_become_63 rfl (Nat.le_of_ble_eq_true rfl) rfl ?_
      refine go_goto (tgt := 42) dX9_become_66 (by decide) ?_
      simp only [List.set, iI_add]
      exact ih (i + 1) _ (by omega) (BcR_q h (by omega) hr)
theorem bc13 {l : Launch} {D : va_G} {cA ad : Nat → Nat} {d : Nat} {σ : AS} {K : Option Value → AS → Prop} {s : PS} (hR : RO σ) (hs : PSC σ s) (hp : POK s) (hK : ∀ τ, Fr 3 22 σ τ → TwC τ s → K none τ) : ∀ (r i : Nat) (τ : AS), r + i = 7 → BcR σ τ i 0 → Go l D cA ad (d + 2) mX9_become 13 [.ref 3, .ref 23, .int (iI i)] [] τ K := by
  intro r
  induction r with
  | zero =>
    intro i τ hr h
    obtain rfl : i = 7 := by omega
    refine go_iload_n dX9_become_13 rfl ?_
    refine go_bipush (v := iI 7) dX9_become_14 (by decide) ?_
    refine go_icmp_ge (tgt := 40) dX9_become_16 (by decide) (fun h16 => ?_) (fun h16 => ?_)
    · refine go_iconst (v := iI 0) dX9_become_40 (by decide) ?_
      refine go_istore_n dX9_become_41 (Nat.le_of_ble_eq_true rfl) rfl ?_
      simp only [List.set]
      exact bc42 hR hs hp hK 9 0 τ (by omega) h
    · exact absurd (by decide) h16
  | succ r ih =>
    intro i τ hr h
    refine go_iload_n dX9_become_13 rfl ?_
    refine go_bipush (v := iI 7) dX9_become_14 (by decide) ?_
    refine go_icmp_ge (tgt := 40) dX9_become_16 (by decide) (fun h16 => ?_) (fun h16 => ?_)
    · exfalso
      rw [iI_le (by omega)] at h16
      omega
    · refine go_aload_n dX9_become_19 rfl ?_
      refine go_getR fX9_27 dX9_become_20 rfl (h.1.RO hR _ _ _ rfl) ?_
      refine go_iload_n dX9_become_23 rfl ?_
      refine go_aald dX9_become_24 rfl (by decide) (vp_iI (by omega)) (by rw [cl_n _ (by omega)]; exact h.1.RO hR _ _ _ (r25 i (by omega)).1) ?_
      refine go_aload_n dX9_become_25 rfl ?_
      refine go_getR fX9_27 dX9_become_26 rfl (h.1.RO hR _ _ _ rfl) ?_
      refine go_iload_n dX9_become_29 rfl ?_
      refine go_aald dX9_become_30 rfl (by decide) (vp_iI (by omega)) (by rw [cl_n _ (by omega)]; exact h.1.RO hR _ _ _ (r25 i (by omega)).2.2.1) ?_
      refine go_callS (as := [_, _]) wX9_42 dX9_become_31 rfl rfl (Nat.le_of_ble_eq_true rfl) (ct_X9_copyRow (k0 := 26 + i) (rw := 6 + i) (n := 9) (r25 i (by omega)).2.1 (r25 i (by omega)).2.2.2 (by decide) (fun r hr => ?_))
      refine go_iincI dX9_become_34 rfl (Nat.le_of_ble_eq_true rfl) rfl ?_
      refine go_goto (tgt := 13) dX9_become_37 (by decide) ?_
      simp only [List.set, iI_add]
      exact ih (i + 1) _ (by omega) (BcR_p h (by omega) hr)
theorem ct_X9_become {l : Launch} {D : va_G} {cA ad : Nat → Nat} {d : Nat} {σ : AS} {K : Option Value → AS → Prop} {s : PS} (hR : RO σ) (hs : PSC σ s) (hp : POK s) (hK : ∀ τ, Fr 3 22 σ τ → TwC τ s → K none τ) : Call l D cA ad (d + 2) mX9_become [.ref 3, .ref 23] σ K := by
  refine call_go (by decide) (Nat.le_of_ble_eq_true rfl) (show Go l D cA ad (d + 2) mX9_become 0 [.ref 3, .ref 23, .null] [] σ K from ?_)
  refine go_aload_n dX9_become_0 rfl ?_
  refine go_getR fX9_17 dX9_become_1 rfl (hR _ _ _ rfl) ?_
  refine go_aload_n dX9_become_4 rfl ?_
  refine go_getR fX9_17 dX9_become_5 rfl (hR _ _ _ rfl) ?_
  refine go_callS (as := [_, _]) wX9_42 dX9_become_8 rfl rfl (Nat.le_of_ble_eq_true rfl) (ct_X9_copyRow (k0 := 24) (rw := 4) (n := 3) rfl rfl (by decide) (fun r hr => ?_))
  refine go_iconst (v := iI 0) dX9_become_11 (by decide) ?_
  refine go_istore_n dX9_become_12 (Nat.le_of_ble_eq_true rfl) rfl ?_
  simp only [List.set]
  exact bc13 hR hs hp hK 7 0 _ (by omega) ⟨Fr.rf.sI (by decide) (by decide), fun j hj => by rw [sI_same]; exact hr j hj, fun i j hi => absurd hi (Nat.not_lt_zero _), fun i j hi => absurd hi (Nat.not_lt_zero _)⟩

def begW (s : PS) : WT := (fun i => if i < nP s then pd s i 0 else 0, fun i => if i < nP s then pd s i 7 else 0, fun i => if i < nP s then pd s i 8 else 0, btF (fun k => pp s k 4 == 1) (nQ s), 0, 0)
theorem begW_ok {s : PS} (h : TwK s) : WK s (begW s) := by
  refine ⟨fun i hi => ?_, fun i hi => ?_, ?_, ?_⟩
  · have hp := h.2.2.2.1 i hi
    unfold PdK at hp
    have e1 : wa (begW s) i = pd s i 0 := if_pos hi
    have e2 : ca (begW s) i = pd s i 7 := if_pos hi
    have e3 : pk (begW s) i = pd s i 8 := if_pos hi
    rw [e1, e2, e3]
    omega
  · exact ⟨if_neg (by omega), if_neg (by omega), if_neg (by omega)⟩
  · exact btF_lt _ (nQ s) h.2.1
  · show 0 ≤ 20000; decide
def BgR (σ τ : AS) (s : PS) (n : Nat) : Prop := Fr 87 90 σ τ ∧ ∀ i, i < n → τ.1 88 i = iI (wa (begW s) i) ∧ τ.1 89 i = iI (ca (begW s) i) ∧ τ.1 90 i = iI (pk (begW s) i)
theorem BgR_s {σ τ : AS} {s : PS} {n : Nat} {x y z : Int32} (h : BgR σ τ s n) (hx : x = iI (wa (begW s) n)) (hy : y = iI (ca (begW s) n)) (hz : z = iI (pk (begW s) n)) : BgR σ (sI (sI (sI τ 88 (upd (τ.1 88) n x)) 89 (upd (τ.1 89) n y)) 90 (upd (τ.1 90) n z)) s (n + 1) := by
  refine ⟨((h.1.sI (by decide) (by decide)).sI (by decide) (by decide)).sI (by decide) (by decide), fun i hi => ?_⟩
  rw [sI_ne _ 90 88 _ (by decide), sI_ne _ 89 88 _ (by decide), sI_same, sI_ne _ 90 89 _ (by decide), sI_same, sI_same]
  by_cases c : i = n
  · subst c; rw [upd_same, upd_same, upd_same]; exact ⟨hx, hy, hz⟩
  · rw [upd_ne _ _ _ _ c, upd_ne _ _ _ _ c, upd_ne _ _ _ _ c]; exact h.2 i (by omega)
theorem b_or4 : ∀ m, m < 512 → ∀ j, j < 9 → iI (m : Nat) ||| (iI 0 <<< (iI (j : Nat) &&& 31)) = iI (m : Nat) := by decide +kernel
theorem bg95 {l : Launch} {D : va_G} {cA ad : Nat → Nat} {d : Nat} {σ : AS} {K : Option Value → AS → Prop} {s : PS} {v3 : Value} (hR : RO σ) (hS : TwK s) (hK : ∀ τ, Fr 87 90 σ τ → WC τ 87 (begW s) → K none τ) : ∀ (r i : Nat) (τ : AS), r + i = nQ s → Fr 87 90 σ τ → TwC τ s → BgR σ τ s 7 → τ.1 87 3 = iI (btF (fun k => pp s k 4 == 1) i : Nat) → Go l D cA ad (d + 1) mX10_begin 95 [.ref 87, .ref 3, .int (iI i), v3] [] τ K := by
  have hQ9 := hS.2.1
  intro r
  induction r with
  | zero =>
    intro i τ hr fr hT hb h3
    obtain rfl : i = nQ s := by omega
    refine go_iload_n dX10_begin_95 rfl ?_
    refine go_aload_n dX10_begin_96 rfl ?_
    refine go_getI fX10_35 dX10_begin_97 rfl ?_
    refine go_icmp_ge (tgt := 128) dX10_begin_100 (by decide) (fun h100 => ?_) (fun h100 => ?_)
    · refine go_aload_n dX10_begin_128 rfl ?_
      refine go_iconst (v := iI 0) dX10_begin_129 (by decide) ?_
      refine go_putI fX10_41 rfl dX10_begin_130 rfl rfl rfl ?_
      refine go_aload_n dX10_begin_133 rfl ?_
      refine go_iconst (v := iI 0) dX10_begin_134 (by decide) ?_
      refine go_putI fX10_44 rfl dX10_begin_135 rfl rfl rfl ?_
      refine go_vret rfl dX10_begin_138 ?_
      refine hK _ ((fr.sI (by decide) (by decide)).sI (by decide) (by decide)) ⟨fun i hi => ⟨?_, ?_, ?_⟩, ?_, ?_, ?_⟩
      · rw [sI_ne _ _ _ _ (by decide), sI_ne _ _ _ _ (by decide)]; exact (hb.2 i hi).1
      · rw [sI_ne _ _ _ _ (by decide), sI_ne _ _ _ _ (by decide)]; exact (hb.2 i hi).2.1
      · rw [sI_ne _ _ _ _ (by decide), sI_ne _ _ _ _ (by decide)]; exact (hb.2 i hi).2.2
      · rw [sI_same, upd_ne _ _ _ _ (by decide), sI_same, upd_ne _ _ _ _ (by decide)]; exact h3
      · rw [sI_same, upd_ne _ _ _ _ (by decide), sI_same, upd_same]; rfl
      · rw [sI_same, upd_same]; rfl
    · exfalso
      rw [hT.2.1, iI_le (by omega)] at h100
      omega
  | succ r ih =>
    intro i τ hr fr hT hb h3
    have hi : i < nQ s := by omega
    refine go_iload_n dX10_begin_95 rfl ?_
    refine go_aload_n dX10_begin_96 rfl ?_
    refine go_getI fX10_35 dX10_begin_97 rfl ?_
    refine go_icmp_ge (tgt := 128) dX10_begin_100 (by decide) (fun h100 => ?_) (fun h100 => ?_)
    · exfalso
      rw [hT.2.1, iI_le (by omega)] at h100
      omega
    · refine go_aload_n dX10_begin_103 rfl ?_
      refine go_dup dX10_begin_104 rfl ?_
      refine go_getI fX10_21 dX10_begin_105 rfl ?_
      rw [h3]
      refine go_aload_n dX10_begin_108 rfl ?_
      refine go_getR fX10_38 dX10_begin_109 rfl (fr.RO hR _ _ _ rfl) ?_
      refine go_iload_n dX10_begin_112 rfl ?_
      refine go_aald dX10_begin_113 rfl (by decide) (vp_iI (by omega)) (by rw [cl_n _ (by omega)]; exact fr.RO hR _ _ _ (r33 i (by omega)).2.2.1) ?_
      refine go_iconst (v := iI 4) dX10_begin_114 (by decide) ?_
      refine go_iald dX10_begin_115 (r33 _ (by omega)).2.2.2 (vp_iI (by decide)) ?_
      rw [show (iI 4).toNatClampNeg = 4 by decide, hT.2.2.2.2 i 4 hi (by decide)]
      refine go_iload_n dX10_begin_116 rfl ?_
      refine go_ishl dX10_begin_117 ?_
      refine go_ior dX10_begin_118 ?_
      have hbl := btF_512 (fun k => pp s k 4 == 1) i (by omega)
      have hpk := hS.2.2.2.2 i hi
      unfold PpK at hpk
      have e9 : iI (btF (fun k => pp s k 4 == 1) i : Nat) ||| (iI (pp s i 4) <<< (iI (i : Nat) &&& 31)) = iI ((btF (fun k => pp s k 4 == 1) (i + 1) : Nat) : Int) := by
        by_cases c : pp s i 4 = 1
        · rw [c, b_or _ hbl i (by omega), btF_t (by simp [c])]
        · have c0 : pp s i 4 = 0 := by omega
          rw [c0, b_or4 _ hbl i (by omega), btF_f (by simp [c0])]
      rw [e9]
      refine go_putI fX10_21 rfl dX10_begin_119 rfl rfl rfl ?_
      refine go_iincI dX10_begin_122 rfl (Nat.le_of_ble_eq_true rfl) rfl ?_
      refine go_goto (tgt := 95) dX10_begin_125 (by decide) ?_
      simp only [List.set, iI_add]
      exact ih (i + 1) _ (by omega) (fr.sI (by decide) (by decide)) (TwC_fr hT hS.1 hS.2.1 (fun k a b => sI_ne _ _ _ _ (by omega))) ⟨hb.1.sI (by decide) (by decide), fun j hj => by rw [sI_ne _ _ _ _ (by decide), sI_ne _ _ _ _ (by decide), sI_ne _ _ _ _ (by decide)]; exact hb.2 j hj⟩ (by rw [sI_same, upd_same])
theorem bg2 {l : Launch} {D : va_G} {cA ad : Nat → Nat} {d : Nat} {σ : AS} {K : Option Value → AS → Prop} {s : PS} (hR : RO σ) (hS : TwK s) (hT : TwC σ s) (hK : ∀ τ, Fr 87 90 σ τ → WC τ 87 (begW s) → K none τ) : ∀ (r i : Nat) (τ : AS) (v3 : Value), r + i = 7 → BgR σ τ s i → Go l D cA ad (d + 1) mX10_begin 2 [.ref 87, .ref 3, .int (iI i), v3] [] τ K := by
  have hP7 := hS.1
  intro r
  induction r with
  | zero =>
    intro i τ v3 hr h
    obtain rfl : i = 7 := by omega
    refine go_iload_n dX10_begin_2 rfl ?_
    refine go_bipush (v := iI 7) dX10_begin_3 (by decide) ?_
    refine go_icmp_ge (tgt := 88) dX10_begin_5 (by decide) (fun h5 => ?_) (fun h5 => ?_)
    · refine go_aload_n dX10_begin_88 rfl ?_
      refine go_iconst (v := iI 0) dX10_begin_89 (by decide) ?_
      refine go_putI fX10_21 rfl dX10_begin_90 rfl rfl rfl ?_
      refine go_iconst (v := iI 0) dX10_begin_93 (by decide) ?_
      refine go_istore_n dX10_begin_94 (Nat.le_of_ble_eq_true rfl) rfl ?_
      simp only [List.set]
      exact bg95 hR hS hK (nQ s) 0 _ (by omega) (h.1.sI (by decide) (by decide)) (TwC_fr hT hS.1 hS.2.1 (fun k a b => by rw [sI_ne _ _ _ _ (by omega)]; exact h.1.2 k (by omega))) ⟨h.1.sI (by decide) (by decide), fun j hj => by rw [sI_ne _ _ _ _ (by decide), sI_ne _ _ _ _ (by decide), sI_ne _ _ _ _ (by decide)]; exact h.2 j hj⟩ (by rw [sI_same, upd_same]; rfl)
    · exact absurd (by decide) h5
  | succ r ih =>
    intro i τ v3 hr h
    refine go_iload_n dX10_begin_2 rfl ?_
    refine go_bipush (v := iI 7) dX10_begin_3 (by decide) ?_
    refine go_icmp_ge (tgt := 88) dX10_begin_5 (by decide) (fun h5 => ?_) (fun h5 => ?_)
    · exfalso
      rw [iI_le (by omega)] at h5
      omega
    · refine go_aload_n dX10_begin_8 rfl ?_
      refine go_iload_n dX10_begin_9 rfl ?_
      refine go_callV (as := [_]) wX10_25 dX10_begin_10 rfl rfl rfl rfl (Nat.le_of_ble_eq_true rfl) (ct_X9_hasPond (n := nP s) (by omega) rfl (by rw [h.1.2 3 (by decide)]; exact hT.1) (by omega) ?_)
      by_cases c : i < nP s
      · rw [if_pos (by omega)]
        refine go_istore_n dX10_begin_13 (Nat.le_of_ble_eq_true rfl) rfl ?_
        simp only [List.set]
        refine go_aload_n dX10_begin_14 rfl ?_
        refine go_getR fX10_9 dX10_begin_15 rfl (h.1.RO hR _ _ _ rfl) ?_
        refine go_iload_n dX10_begin_18 rfl ?_
        refine go_iload_n dX10_begin_19 rfl ?_
        refine go_if_eq (tgt := 34) dX10_begin_20 (by decide) (fun h20 => ?_) (fun h20 => ?_)
        · exact absurd h20 (by decide)
        · refine go_aload_n dX10_begin_23 rfl ?_
          refine go_getR fX10_31 dX10_begin_24 rfl (h.1.RO hR _ _ _ rfl) ?_
          refine go_iload_n dX10_begin_27 rfl ?_
          refine go_aald dX10_begin_28 rfl (by decide) (vp_iI (by omega)) (by rw [cl_n _ (by omega)]; exact h.1.RO hR _ _ _ (r25 i (by omega)).2.2.1) ?_
          refine go_iconst (v := iI 0) dX10_begin_29 (by decide) ?_
          refine go_iald dX10_begin_30 (r25 _ (by omega)).2.2.2 (vp_iI (by decide)) ?_
          rw [show (iI 0).toNatClampNeg = 0 by decide, h.1.2 (6 + i) (by omega), hT.2.2.2.1 i 0 c (by decide)]
          refine go_goto (tgt := 35) dX10_begin_31 (by decide) ?_
          refine go_iast dX10_begin_35 rfl (vp_iI (by omega)) ?_
          rw [cl_n _ (by omega)]
          refine go_aload_n dX10_begin_36 rfl ?_
          refine go_getR fX10_15 dX10_begin_37 rfl (h.1.RO hR _ _ _ rfl) ?_
          refine go_iload_n dX10_begin_40 rfl ?_
          refine go_iload_n dX10_begin_41 rfl ?_
          refine go_if_eq (tgt := 57) dX10_begin_42 (by decide) (fun h42 => ?_) (fun h42 => ?_)
          · exact absurd h42 (by decide)
          · refine go_aload_n dX10_begin_45 rfl ?_
            refine go_getR fX10_31 dX10_begin_46 rfl (h.1.RO hR _ _ _ rfl) ?_
            refine go_iload_n dX10_begin_49 rfl ?_
            refine go_aald dX10_begin_50 rfl (by decide) (vp_iI (by omega)) (by rw [cl_n _ (by omega)]; exact h.1.RO hR _ _ _ (r25 i (by omega)).2.2.1) ?_
            refine go_bipush (v := iI 7) dX10_begin_51 (by decide) ?_
            refine go_iald dX10_begin_53 (r25 _ (by omega)).2.2.2 (vp_iI (by decide)) ?_
            rw [show (iI 7).toNatClampNeg = 7 by decide, sI_ne _ _ _ _ (by omega), h.1.2 (6 + i) (by omega), hT.2.2.2.1 i 7 c (by decide)]
            refine go_goto (tgt := 58) dX10_begin_54 (by decide) ?_
            refine go_iast dX10_begin_58 rfl (vp_iI (by omega)) ?_
            rw [cl_n _ (by omega), sI_ne _ _ _ _ (by decide)]
            refine go_aload_n dX10_begin_59 rfl ?_
            refine go_getR fX10_18 dX10_begin_60 rfl (h.1.RO hR _ _ _ rfl) ?_
            refine go_iload_n dX10_begin_63 rfl ?_
            refine go_iload_n dX10_begin_64 rfl ?_
            refine go_if_eq (tgt := 80) dX10_begin_65 (by decide) (fun h65 => ?_) (fun h65 => ?_)
            · exact absurd h65 (by decide)
            · refine go_aload_n dX10_begin_68 rfl ?_
              refine go_getR fX10_31 dX10_begin_69 rfl (h.1.RO hR _ _ _ rfl) ?_
              refine go_iload_n dX10_begin_72 rfl ?_
              refine go_aald dX10_begin_73 rfl (by decide) (vp_iI (by omega)) (by rw [cl_n _ (by omega)]; exact h.1.RO hR _ _ _ (r25 i (by omega)).2.2.1) ?_
              refine go_bipush (v := iI 8) dX10_begin_74 (by decide) ?_
              refine go_iald dX10_begin_76 (r25 _ (by omega)).2.2.2 (vp_iI (by decide)) ?_
              rw [show (iI 8).toNatClampNeg = 8 by decide, sI_ne _ _ _ _ (by omega), sI_ne _ _ _ _ (by omega), h.1.2 (6 + i) (by omega), hT.2.2.2.1 i 8 c (by decide)]
              refine go_goto (tgt := 81) dX10_begin_77 (by decide) ?_
              refine go_iast dX10_begin_81 rfl (vp_iI (by omega)) ?_
              rw [cl_n _ (by omega), sI_ne _ _ _ _ (by decide), sI_ne _ _ _ _ (by decide)]
              refine go_iincI dX10_begin_82 rfl (Nat.le_of_ble_eq_true rfl) rfl ?_
              refine go_goto (tgt := 2) dX10_begin_85 (by decide) ?_
              simp only [List.set, iI_add]
              exact ih (i + 1) _ _ (by omega) (BgR_s h (by show _ = iI (if i < nP s then _ else _); rw [if_pos c]) (by show _ = iI (if i < nP s then _ else _); rw [if_pos c]) (by show _ = iI (if i < nP s then _ else _); rw [if_pos c]))
      · rw [if_neg (by omega)]
        refine go_istore_n dX10_begin_13 (Nat.le_of_ble_eq_true rfl) rfl ?_
        simp only [List.set]
        refine go_aload_n dX10_begin_14 rfl ?_
        refine go_getR fX10_9 dX10_begin_15 rfl (h.1.RO hR _ _ _ rfl) ?_
        refine go_iload_n dX10_begin_18 rfl ?_
        refine go_iload_n dX10_begin_19 rfl ?_
        refine go_if_eq (tgt := 34) dX10_begin_20 (by decide) (fun h20 => ?_) (fun h20 => ?_)
        · refine go_iconst (v := iI 0) dX10_begin_34 (by decide) ?_
          refine go_iast dX10_begin_35 rfl (vp_iI (by omega)) ?_
          rw [cl_n _ (by omega)]
          refine go_aload_n dX10_begin_36 rfl ?_
          refine go_getR fX10_15 dX10_begin_37 rfl (h.1.RO hR _ _ _ rfl) ?_
          refine go_iload_n dX10_begin_40 rfl ?_
          refine go_iload_n dX10_begin_41 rfl ?_
          refine go_if_eq (tgt := 57) dX10_begin_42 (by decide) (fun h42 => ?_) (fun h42 => ?_)
          · refine go_iconst (v := iI 0) dX10_begin_57 (by decide) ?_
            refine go_iast dX10_begin_58 rfl (vp_iI (by omega)) ?_
            rw [cl_n _ (by omega), sI_ne _ _ _ _ (by decide)]
            refine go_aload_n dX10_begin_59 rfl ?_
            refine go_getR fX10_18 dX10_begin_60 rfl (h.1.RO hR _ _ _ rfl) ?_
            refine go_iload_n dX10_begin_63 rfl ?_
            refine go_iload_n dX10_begin_64 rfl ?_
            refine go_if_eq (tgt := 80) dX10_begin_65 (by decide) (fun h65 => ?_) (fun h65 => ?_)
            · refine go_iconst (v := iI 0) dX10_begin_80 (by decide) ?_
              refine go_iast dX10_begin_81 rfl (vp_iI (by omega)) ?_
              rw [cl_n _ (by omega), sI_ne _ _ _ _ (by decide), sI_ne _ _ _ _ (by decide)]
              refine go_iincI dX10_begin_82 rfl (Nat.le_of_ble_eq_true rfl) rfl ?_
              refine go_goto (tgt := 2) dX10_begin_85 (by decide) ?_
              simp only [List.set, iI_add]
              exact ih (i + 1) _ _ (by omega) (BgR_s h (by show _ = iI (if i < nP s then _ else _); rw [if_neg c]) (by show _ = iI (if i < nP s then _ else _); rw [if_neg c]) (by show _ = iI (if i < nP s then _ else _); rw [if_neg c]))
            · exact absurd h65 (by decide)
          · exact absurd h42 (by decide)
        · exact absurd h20 (by decide)
theorem ct_X10_begin {l : Launch} {D : va_G} {cA ad : Nat → Nat} {d : Nat} {σ : AS} {K : Option Value → AS → Prop} {s : PS} (hR : RO σ) (hS : TwK s) (hT : TwC σ s) (hK : ∀ τ, Fr 87 90 σ τ → WC τ 87 (begW s) → K none τ) : Call l D cA ad (d + 1) mX10_begin [.ref 87, .ref 3] σ K := by
  refine call_go (by decide) (Nat.le_of_ble_eq_true rfl) (show Go l D cA ad (d + 1) mX10_begin 0 [.ref 87, .ref 3, .null, .null] [] σ K from ?_)
  refine go_iconst (v := iI 0) dX10_begin_0 (by decide) ?_
  refine go_istore_n dX10_begin_1 (Nat.le_of_ble_eq_true rfl) rfl ?_
  simp only [List.set]
  exact bg2 hR hS hT hK 7 0 σ _ (by omega) ⟨Fr.rf, fun i hi => absurd hi (Nat.not_lt_zero _)⟩

