/-! days ahead -/
def daysF (s : PS) (hv : Option (List CL)) : Nat → WT → WT
  | 0, w => w
  | n + 1, w => daysF s hv n (dayF s hv (skv s 0) w)
theorem daysF_s (s : PS) (hv : Option (List CL)) : ∀ (n : Nat) (w : WT), daysF s hv (n + 1) w = dayF s hv (skv s 0) (daysF s hv n w)
  | 0, w => rfl
  | n + 1, w => daysF_s s hv n (dayF s hv (skv s 0) w)
theorem daysF_ok {s : PS} {hv : Option (List CL)} (hS : TwK s) : ∀ (n : Nat) (w : WT), WK s w → dy w + n ≤ 20000 → WK s (daysF s hv n w) ∧ opn (daysF s hv n w) = opn w ∧ dy (daysF s hv n w) = dy w + n
  | 0, w, hw, _ => ⟨hw, rfl, rfl⟩
  | n + 1, w, hw, hd => by
    have h1 := dayF_ok (hv := hv) hS hw (hS.2.2.1 0 (by decide)).1 (by omega)
    have h2 := daysF_ok (hv := hv) hS n _ h1.1 (by omega)
    refine ⟨h2.1, h2.2.1.trans h1.2.1, ?_⟩
    show dy (daysF s hv n (dayF s hv (skv s 0) w)) = _
    rw [h2.2.2, h1.2.2]
    omega
def xv (X : XS) : Option (List CL) := hLw (xL X) (xh X)
def aftF (X : XS) (n m : Nat) : WT := daysF (xs X) (xv X) n (setO (xw X) m)
theorem setO_ok {s : PS} {w : WT} {m : Nat} (hw : WK s w) (hm : m < 2 ^ nQ s) : WK s (setO w m) := ⟨hw.1, hw.2.1, hm, hw.2.2.2⟩
theorem setO_self (w : WT) : setO w (opn w) = w := rfl
theorem aftF_ok {X : XS} (hK : XK X) {n m : Nat} (hn : n ≤ 1000) (hm : m < 2 ^ nQ (xs X)) : WK (xs X) (aftF X n m) := (daysF_ok hK.s n _ (setO_ok hK.w hm) (by have := hK.d; show dy (xw X) + n ≤ 20000; omega)).1
theorem scW {b : Nat} (hb : b = 106) : ∀ k, k ∈ [52, 53, 56, 57, 60, 61, 64, 65, b, b + 1, b + 2, b + 3] → k < 111 ∧ ¬ uC k ∧ k ≠ 1 := by
  subst hb
  intro k hk
  simp only [List.mem_cons, List.not_mem_nil, or_false] at hk
  unfold uC
  omega
theorem QF.w {σ τ : AS} (h : FrW 106 σ τ) : QF σ τ := QF.ofS (S := [52, 53, 56, 57, 60, 61, 64, 65, 106, 107, 108, 109]) (FrS.ofW h (fun i hi => by rcases (show i = 0 ∨ i = 1 ∨ i = 2 ∨ i = 3 by omega) with rfl | rfl | rfl | rfl <;> decide) (fun k h1 h2 => by rcases (show k = 106 ∨ k = 107 ∨ k = 108 ∨ k = 109 by omega) with rfl | rfl | rfl | rfl <;> decide)) (scW rfl)
theorem QF.r {σ τ : AS} (h : Fr 106 109 σ τ) : QF σ τ := QF.ofS (S := [52, 53, 56, 57, 60, 61, 64, 65, 106, 107, 108, 109]) (FrS.of h (fun k h1 h2 => by rcases (show k = 106 ∨ k = 107 ∨ k = 108 ∨ k = 109 by omega) with rfl | rfl | rfl | rfl <;> decide)) (scW rfl)
theorem QF_s106 {σ τ : AS} {f : Nat → Int32} (h : QF σ τ) : QF σ (sI τ 106 f) := h.sI (by decide) (by unfold uC; omega) (by decide)
theorem af21 {l : Launch} {D : va_G} {cA ad : Nat → Nat} {d : Nat} {σ : AS} {K : Option Value → AS → Prop} {X : XS} {W1 : WT} {n : Nat} {m : Int32} (hR : RO σ) (hK0 : XK X) (hC : CI σ X) (hn : n ≤ 1000) (hK : ∀ τ, QF σ τ → WC τ 106 W1 → K (some (.ref 106)) τ) : ∀ (r i : Nat) (w : WT) (τ : AS), r + i = n → QF σ τ → WC τ 106 w → WK (xs X) w → dy w + r ≤ 20000 → daysF (xs X) (xv X) r w = W1 → Go l D cA ad (d + 5) mX6_after 21 [.ref 105, .int (iI n), .int m, .int (iI i)] [] τ K := by
  intro r
  induction r with
  | zero =>
    intro i w τ hr hq hW hw hd hres
    refine go_iload_n dX6_after_21 rfl ?_
    refine go_iload_n dX6_after_22 rfl ?_
    refine go_icmp_ge (tgt := 52) dX6_after_23 (by decide) (fun h23 => ?_) (fun h23 => ?_)
    · refine go_aload_n dX6_after_52 rfl ?_
      refine go_getR fX6_12 dX6_after_53 rfl (hq.RO hR _ _ _ rfl) ?_
      refine go_aret rfl dX6_after_56 ?_
      have e : w = W1 := hres
      subst e
      exact hK τ hq hW
    · exfalso
      rw [iI_le (by omega)] at h23
      omega
  | succ r ih =>
    intro i w τ hr hq hW hw hd hres
    refine go_iload_n dX6_after_21 rfl ?_
    refine go_iload_n dX6_after_22 rfl ?_
    refine go_icmp_ge (tgt := 52) dX6_after_23 (by decide) (fun h23 => ?_) (fun h23 => ?_)
    · exfalso
      rw [iI_le (by omega)] at h23
      omega
    · refine go_aload_n dX6_after_26 rfl ?_
      refine go_getR fX6_26 dX6_after_27 rfl (hq.RO hR _ _ _ rfl) ?_
      refine go_aload_n dX6_after_30 rfl ?_
      refine go_getR fX6_12 dX6_after_31 rfl (hq.RO hR _ _ _ rfl) ?_
      refine go_aload_n dX6_after_34 rfl ?_
      refine go_getR fX6_22 dX6_after_35 rfl (hq.RO hR _ _ _ rfl) ?_
      refine go_getR fX6_41 dX6_after_38 rfl (hq.RO hR _ _ _ rfl) ?_
      refine go_iconst (v := iI 0) dX6_after_41 (by decide) ?_
      refine go_iald dX6_after_42 rfl (vp_iI (by decide)) ?_
      rw [cl_0, (hC.q hK0 hq).2.1.2.2.1 0 (by decide)]
      refine go_callV (as := [_, _]) wX6_46 dX6_after_43 rfl rfl rfl rfl (Nat.le_of_ble_eq_true rfl) (ct_X2_passDay (hq.RO hR) (hC.q hK0 hq).2.1 hK0.s WB_106 hW hw (by decide) hK0.L (hC.q hK0 hq).2.2.2.2.2.2.2.1 (by have := hK0.s.2.2.1 0 (by decide); omega) (fun ρ fr hW2 => ?_))
      refine go_iincI dX6_after_46 rfl (Nat.le_of_ble_eq_true rfl) rfl ?_
      refine go_goto (tgt := 21) dX6_after_49 (by decide) ?_
      simp only [List.set, iI_add]
      exact ih (i + 1) _ ρ (by omega) (hq.tr (QF.w fr)) hW2 (dayF_ok (hv := hLw (xL X) (xh X)) hK0.s hw (hK0.s.2.2.1 0 (by decide)).1 (by omega)).1 (by rw [(dayF_ok (hv := hLw (xL X) (xh X)) hK0.s hw (hK0.s.2.2.1 0 (by decide)).1 (by omega)).2.2]; omega) hres
theorem ct_X6_after {l : Launch} {D : va_G} {cA ad : Nat → Nat} {d : Nat} {σ : AS} {K : Option Value → AS → Prop} {X : XS} {n m : Nat} (hR : RO σ) (hK0 : XK X) (hC : CI σ X) (hn : n ≤ 1000) (hm : m < 2 ^ nQ (xs X)) (hK : ∀ τ, QF σ τ → WC τ 106 (aftF X n m) → K (some (.ref 106)) τ) : Call l D cA ad (d + 5) mX6_after [.ref 105, .int (iI n), .int (iI m)] σ K := by
  refine call_go (by decide) (Nat.le_of_ble_eq_true rfl) (show Go l D cA ad (d + 5) mX6_after 0 [.ref 105, .int (iI n), .int (iI m), .null] [] σ K from ?_)
  refine go_aload_n dX6_after_0 rfl ?_
  refine go_getR fX6_12 dX6_after_1 rfl (hR _ _ _ rfl) ?_
  refine go_aload_n dX6_after_4 rfl ?_
  refine go_getR fX6_30 dX6_after_5 rfl (hR _ _ _ rfl) ?_
  refine go_callV (as := [_]) wX6_33 dX6_after_8 rfl rfl rfl rfl (Nat.le_of_ble_eq_true rfl) (ct_X10_become (w := xw X) hR WB_106 WB_87 (by decide) hC.2.2.1 (fun τ fr hW => ?_))
  refine go_aload_n dX6_after_11 rfl ?_
  refine go_getR fX6_12 dX6_after_12 rfl (fr.RO hR _ _ _ rfl) ?_
  refine go_iload_n dX6_after_15 rfl ?_
  refine go_putI fX6_37 rfl dX6_after_16 rfl rfl rfl ?_
  refine go_iconst (v := iI 0) dX6_after_19 (by decide) ?_
  refine go_istore_n dX6_after_20 (Nat.le_of_ble_eq_true rfl) rfl ?_
  simp only [List.set]
  exact af21 hR hK0 hC hn hK n 0 (setO (xw X) m) _ (by omega) (QF_s106 (QF.r fr)) (WC_o hW) (setO_ok hK0.w hm) (by have := hK0.d; show dy (xw X) + n ≤ 20000; omega) rfl

def cpR (f g : Nat → Int32) (k : Nat) : Nat → Int32 := fun j => if j < k then f j else g j
theorem cpR_s (f g : Nat → Int32) (k : Nat) : upd (cpR f g k) k (f k) = cpR f g (k + 1) := by
  funext j
  by_cases hj : j = k
  · subst hj; rw [upd_same]; unfold cpR; rw [if_pos (by omega)]
  · rw [upd_ne _ _ _ _ hj]; unfold cpR
    by_cases c : j < k
    · rw [if_pos c, if_pos (by omega)]
    · rw [if_neg c, if_neg (by omega)]
theorem cpR_0 (f g : Nat → Int32) : cpR f g 0 = g := by funext j; unfold cpR; rw [if_neg (by omega)]
theorem lgn_le (T : Nat) : lgn T ≤ 60 ∧ lgn T ≤ T ∧ (T ≤ 60 → lgn T = T) ∧ (60 ≤ T → lgn T = 60) := by unfold lgn; split <;> omega
theorem RwM_cg {r r' : Nat → Int32} {w : WT} {lg : LG} (h : RwM r w lg) (e : ∀ j, j < 25 + 3 * lgn (dy w) → r' j = r j) : RwM r' w lg := by
  have hl := lgn_le (dy w)
  refine ⟨WR_lo h.1 (fun j hj => e j (by omega)), by rw [e _ (by omega)]; exact h.2.1, fun i k h1 h2 h3 => ?_⟩
  rw [e _ (by omega)]
  exact h.2.2 i k h1 h2 h3
theorem cy12 {l : Launch} {D : va_G} {cA ad : Nat → Nat} {d : Nat} {σ : AS} {K : Option Value → AS → Prop} {a b n : Nat} (ha : sh[a]? = some (1, 205)) (hb : sh[b]? = some (1, 205)) (hab : a ≠ b) (hn : n ≤ 205) (hK : K none (sI σ b (cpR (σ.1 a) (σ.1 b) n))) : ∀ i : Nat, i ≤ n → Go l D cA ad d mX12_copy 12 [.ref a, .ref b, .int (iI (n : Nat)), .int (iI i)] [] (sI σ b (cpR (σ.1 a) (σ.1 b) i)) K := by
  refine up_loop ?_ (fun i hi ih => ?_)
  · refine go_iload_n dX12_copy_12 rfl ?_
    refine go_iload_n dX12_copy_13 rfl ?_
    refine go_icmp_ge (tgt := 29) dX12_copy_14 (by decide) (fun h14 => ?_) (fun h14 => ?_)
    · refine go_vret rfl dX12_copy_29 ?_
      exact hK
    · exfalso
      rw [iI_le (by omega)] at h14
      omega
  · refine go_iload_n dX12_copy_12 rfl ?_
    refine go_iload_n dX12_copy_13 rfl ?_
    refine go_icmp_ge (tgt := 29) dX12_copy_14 (by decide) (fun h14 => ?_) (fun h14 => ?_)
    · exfalso
      rw [iI_le (by omega)] at h14
      omega
    · refine go_aload_n dX12_copy_17 rfl ?_
      refine go_iload_n dX12_copy_18 rfl ?_
      refine go_aload_n dX12_copy_19 rfl ?_
      refine go_iload_n dX12_copy_20 rfl ?_
      refine go_iald dX12_copy_21 ha (vp_iI (by omega)) ?_
      rw [cl_n _ (by omega), sI_ne _ _ _ _ hab]
      refine go_iast dX12_copy_22 hb (vp_iI (by omega)) ?_
      rw [cl_n _ (by omega), sI_same, sI_sI, cpR_s]
      refine go_iincI dX12_copy_23 rfl (Nat.le_of_ble_eq_true rfl) rfl ?_
      refine go_goto (tgt := 12) dX12_copy_26 (by decide) ?_
      simp only [List.set, iI_add]
      exact ih

theorem ct_X12_copy {l : Launch} {D : va_G} {cA ad : Nat → Nat} {d : Nat} {σ : AS} {K : Option Value → AS → Prop} {a b : Nat} {w : WT} {lg : LG} (ha : sh[a]? = some (1, 205)) (hb : sh[b]? = some (1, 205)) (hab : a ≠ b) (hw : RwM (σ.1 a) w lg) (hK : ∀ r, RwM r w lg → K none (sI σ b r)) : Call l D cA ad d mX12_copy [.ref a, .ref b] σ K := by
  refine call_go (by decide) (Nat.le_of_ble_eq_true rfl) (show Go l D cA ad d mX12_copy 0 [.ref a, .ref b, .null, .null] [] σ K from ?_)
  refine go_bipush (v := iI 25) dX12_copy_0 (by decide) ?_
  refine go_iconst (v := iI 3) dX12_copy_2 (by decide) ?_
  refine go_aload_n dX12_copy_3 rfl ?_
  refine go_bipush (v := iI 24) dX12_copy_4 (by decide) ?_
  refine go_iald dX12_copy_6 ha (vp_iI (by decide)) ?_
  rw [show (iI 24).toNatClampNeg = 24 by decide, hw.2.1]
  refine go_imul dX12_copy_7 ?_
  refine go_iadd dX12_copy_8 ?_
  rw [iI_mul, iI_add, show 25 + 3 * ((lgn (dy w) : Nat) : Int) = ((25 + 3 * lgn (dy w) : Nat) : Int) by omega]
  refine go_istore_n dX12_copy_9 (Nat.le_of_ble_eq_true rfl) rfl ?_
  refine go_iconst (v := iI 0) dX12_copy_10 (by decide) ?_
  refine go_istore_n dX12_copy_11 (Nat.le_of_ble_eq_true rfl) rfl ?_
  simp only [List.set]
  have hl := lgn_le (dy w)
  have h9 := cy12 (n := 25 + 3 * lgn (dy w)) (K := K) (l := l) (D := D) (cA := cA) (ad := ad) (d := d) ha hb hab (by omega) (hK _ (RwM_cg hw (fun j hj => if_pos hj))) 0 (by omega)
  rw [cpR_0, sI_self] at h9
  exact h9

theorem WR_o {r : Nat → Int32} {w : WT} {m : Nat} (hW : WR r w) : WR (upd r 21 (iI m)) (setO w m) := by
  refine ⟨fun i hi => ⟨?_, ?_, ?_⟩, ?_, ?_, ?_⟩
  · rw [upd_ne _ _ _ _ (by omega)]; exact (hW.1 i hi).1
  · rw [upd_ne _ _ _ _ (by omega)]; exact (hW.1 i hi).2.1
  · rw [upd_ne _ _ _ _ (by omega)]; exact (hW.1 i hi).2.2
  · rw [upd_same]; rfl
  · rw [upd_ne _ _ _ _ (by omega)]; exact hW.2.2.1
  · rw [upd_ne _ _ _ _ (by omega)]; exact hW.2.2.2
theorem DF_t {Ls : LwT} {σ τ : AS} {f : Nat → Int32} (h : DF Ls σ τ) : DF Ls σ (sI τ 125 f) := h.sI (by decide) (by unfold uM; omega) (by decide)
theorem DF_f0 {Ls : LwT} {σ τ : AS} {x : Int32} (h : DF Ls σ τ) : DF Ls σ (sI τ 111 (upd (τ.1 111) 0 x)) := h.f (by unfold uF; omega)
theorem ly21 {l : Launch} {D : va_G} {cA ad : Nat → Nat} {d : Nat} {σ : AS} {K : Option Value → AS → Prop} {X : XS} {W1 : WT} {n : Nat} {m : Int32} (hR : RO σ) (hK0 : XK X) (hC : MI σ X) (hn0 : n ≤ 1000) (hK : ∀ τ, DF (xL X) σ τ → WM τ 125 W1 → K none τ) : ∀ (r i : Nat) (w : WT) (τ : AS) (n6 : Nat), r + i = n → DF (xL X) σ τ → WM τ 125 w → WK (xs X) w → dy w + r ≤ 20000 → τ.1 125 24 = iI n6 → n6 ≤ 60 → daysF (xs X) (xv X) r w = W1 → Go l D cA ad (d + 36) mX12_lay 21 [.ref 111, .int (iI n), .int m, .int (iI i)] [] τ K := by
  intro r
  induction r with
  | zero =>
    intro i w τ n6 hr hq hW hw hd hn hn6 hres
    refine go_iload_n dX12_lay_21 rfl ?_
    refine go_iload_n dX12_lay_22 rfl ?_
    refine go_icmp_ge (tgt := 46) dX12_lay_23 (by decide) (fun h23 => ?_) (fun h23 => ?_)
    · refine go_vret rfl dX12_lay_46 ?_
      have e : w = W1 := hres
      subst e
      exact hK τ hq hW
    · exfalso
      rw [iI_le (by omega)] at h23
      omega
  | succ r ih =>
    intro i w τ n6 hr hq hW hw hd hn hn6 hres
    refine go_iload_n dX12_lay_21 rfl ?_
    refine go_iload_n dX12_lay_22 rfl ?_
    refine go_icmp_ge (tgt := 46) dX12_lay_23 (by decide) (fun h23 => ?_) (fun h23 => ?_)
    · exfalso
      rw [iI_le (by omega)] at h23
      omega
    · refine go_aload_n dX12_lay_26 rfl ?_
      refine go_aload_n dX12_lay_27 rfl ?_
      refine go_getR fX12_64 dX12_lay_28 rfl (hq.RO hR _ _ _ rfl) ?_
      refine go_aload_n dX12_lay_31 rfl ?_
      refine go_getR fX12_37 dX12_lay_32 rfl (hq.RO hR _ _ _ rfl) ?_
      refine go_iconst (v := iI 0) dX12_lay_35 (by decide) ?_
      refine go_iald dX12_lay_36 rfl (vp_iI (by decide)) ?_
      rw [cl_0, (hC.q hK0 hq).2.1.2.2.1 0 (by decide)]
      refine go_callV (as := [_, _]) wX12_391 dX12_lay_37 rfl rfl rfl rfl (Nat.le_of_ble_eq_true rfl) (ct_X12_goDay hK0.s rfl (Or.inr rfl) hK0.L ((hC.q hK0 hq).ms (hq.RO hR)) hW hw (by have := hK0.s.2.2.1 0 (by decide); omega) (by omega) hn hn6 (fun ρ r2 n' off fr hM2 hr2 h59 hcs hlr => ?_))
      refine go_iincI dX12_lay_40 rfl (Nat.le_of_ble_eq_true rfl) rfl ?_
      refine go_goto (tgt := 21) dX12_lay_43 (by decide) ?_
      simp only [List.set, iI_add]
      exact ih (i + 1) _ _ (n' + 1) (by omega) (DF_t (hq.tr (DF.n fr hM2.2.2.2.1 hM2.2.2.2.2))) (by rw [WM_R, sI_same]; exact hr2) (dayF_ok (hv := hLw (xL X) (xh X)) hK0.s hw (hK0.s.2.2.1 0 (by decide)).1 (by omega)).1 (by rw [(dayF_ok (hv := hLw (xL X) (xh X)) hK0.s hw (hK0.s.2.2.1 0 (by decide)).1 (by omega)).2.2]; omega) (by rw [sI_same]; exact hlr.1) (by omega) hres
theorem ct_X12_lay {l : Launch} {D : va_G} {cA ad : Nat → Nat} {d : Nat} {σ : AS} {K : Option Value → AS → Prop} {X : XS} {n m : Nat} (hR : RO σ) (hK0 : XK X) (hC : MI σ X) (hn : n ≤ 1000) (hm : m < 2 ^ nQ (xs X)) (hK : ∀ τ, DF (xL X) σ τ → WM τ 125 (aftF X n m) → K none τ) : Call l D cA ad (d + 36) mX12_lay [.ref 111, .int (iI n), .int (iI m)] σ K := by
  refine call_go (by decide) (Nat.le_of_ble_eq_true rfl) (show Go l D cA ad (d + 36) mX12_lay 0 [.ref 111, .int (iI n), .int (iI m), .null] [] σ K from ?_)
  refine go_aload_n dX12_lay_0 rfl ?_
  refine go_getR fX12_61 dX12_lay_1 rfl (hR _ _ _ rfl) ?_
  refine go_aload_n dX12_lay_4 rfl ?_
  refine go_getR fX12_64 dX12_lay_5 rfl (hR _ _ _ rfl) ?_
  refine go_callS (as := [_, _]) wX12_409 dX12_lay_8 rfl rfl (Nat.le_of_ble_eq_true rfl) (ct_X12_copy (w := xw X) (lg := xl X) rfl rfl (by decide) hC.2.2.1 (fun r hr => ?_))
  refine go_aload_n dX12_lay_11 rfl ?_
  refine go_getR fX12_64 dX12_lay_12 rfl (hR _ _ _ rfl) ?_
  refine go_bipush (v := iI 21) dX12_lay_15 (by decide) ?_
  refine go_iload_n dX12_lay_17 rfl ?_
  refine go_iast dX12_lay_18 rfl (vp_iI (by decide)) ?_
  rw [show (iI 21).toNatClampNeg = 21 by decide, sI_same, sI_sI]
  refine go_iconst (v := iI 0) dX12_lay_19 (by decide) ?_
  refine go_istore_n dX12_lay_20 (Nat.le_of_ble_eq_true rfl) rfl ?_
  simp only [List.set]
  have hl := lgn_le (dy (xw X))
  exact ly21 hR hK0 hC hn hK n 0 (setO (xw X) m) _ (lgn (dy (xw X))) (by omega) (DF_t DF.rf) (by rw [WM_R, sI_same]; exact WR_o hr.1) (setO_ok hK0.w hm) (by have := hK0.d; show dy (xw X) + n ≤ 20000; omega) (by rw [sI_same, upd_ne _ _ _ _ (by decide)]; exact hr.2.1) (by omega) rfl

