/-! the class: key, pour, days, stock, years, undo, law, odds, image, back, measured -/
def keyX (X : XS) (a : Int) (o : Bool) : XS := if o = true then (if can0 (xs X) (xw X) a then opX X a else X) else (if can1 (xs X) (xw X) a then csX X a else X)
def keyA (X : XS) (a : Int) (o : Bool) : Int := if o = true then (if can0 (xs X) (xw X) a then 1 else 0) else (if can1 (xs X) (xw X) a then 1 else 0)
def pourX (X : XS) (a b : Int) : XS := if b ≤ 9 ∧ can3 (xs X) (xw X) a b then poX X a b else X
def pourA (X : XS) (a b : Int) : Int := if b ≤ 9 ∧ can3 (xs X) (xw X) a b then wa (xw X) a.toNat + b else -1
def daysY (X : XS) (a : Int) : XS := if a ≤ 60 ∧ can2 (xs X) (xw X) a then daysX a.toNat X else X
def daysA (X : XS) (a : Int) : Int := if a ≤ 60 ∧ can2 (xs X) (xw X) a then (dy (xw X) : Int) + a else -1
theorem keyK {X : XS} {a : Int} {o : Bool} (h : XK X) : XK (keyX X a o) := by
  unfold keyX
  split
  · split
    · exact XK_op h (by assumption)
    · exact h
  · split
    · exact XK_cl h (by assumption)
    · exact h
theorem pourK {X : XS} {a b : Int} (h : XK X) : XK (pourX X a b) := by
  unfold pourX
  split
  · exact XK_po h (by rename_i q; exact q.2)
  · exact h
theorem daysK {X : XS} {a : Int} (h : XK X) : XK (daysY X a) := by
  unfold daysY
  split
  · exact (XK_days _ X h (by omega)).1
  · exact h
theorem ct_key1 {l : Launch} {D : va_G} {cA ad : Nat → Nat} {d : Nat} {σ : AS} {K : Option Value → AS → Prop} {X : XS} {a : Int} (hR : RO σ) (hK0 : XK X) (hC : CI σ X) (ha32 : -2147483648 ≤ a ∧ a < 2147483648) (hK : ∀ τ, FC σ τ → CI τ (keyX X a true) → K (some (.int (iI (keyA X a true)))) τ) : Call l D cA ad (d + 7) mX11_key [.ref 0, .int (iI a), .int (iI 1)] σ K := by
  refine call_go (by decide) (Nat.le_of_ble_eq_true rfl) (show Go l D cA ad (d + 7) mX11_key 0 [.ref 0, .int (iI a), .int (iI 1)] [] σ K from ?_)
  refine go_aload_n dX11_key_0 rfl ?_
  refine go_iload_n dX11_key_1 rfl ?_
  refine go_if_eq (tgt := 9) dX11_key_2 (by decide) (fun h2 => ?_) (fun h2 => ?_)
  · exact absurd h2 (by decide)
  · refine go_iconst (v := iI 0) dX11_key_5 (by decide) ?_
    refine go_goto (tgt := 10) dX11_key_6 (by decide) ?_
    refine go_iload_n dX11_key_10 rfl ?_
    refine go_iconst (v := iI 0) dX11_key_11 (by decide) ?_
    refine go_callV (as := [_, _, _]) wX11_184 dX11_key_12 rfl rfl rfl rfl (Nat.le_of_ble_eq_true rfl) (ct_act0 hR hK0 hC ha32 (fun hc τ fc hC1 => ?_) (fun hc => ?_))
    · refine go_iret rfl rfl dX11_key_15 ?_
      have e1 : keyX X a true = opX X a := by unfold keyX; rw [if_pos rfl, if_pos hc]
      have e2 : keyA X a true = 1 := by unfold keyA; rw [if_pos rfl, if_pos hc]
      rw [e1, e2] at hK
      exact hK τ fc hC1
    · refine go_iret rfl rfl dX11_key_15 ?_
      have e1 : keyX X a true = X := by unfold keyX; rw [if_pos rfl, if_neg hc]
      have e2 : keyA X a true = 0 := by unfold keyA; rw [if_pos rfl, if_neg hc]
      rw [e1, e2] at hK
      exact hK σ FC.rf hC

theorem ct_key0 {l : Launch} {D : va_G} {cA ad : Nat → Nat} {d : Nat} {σ : AS} {K : Option Value → AS → Prop} {X : XS} {a : Int} (hR : RO σ) (hK0 : XK X) (hC : CI σ X) (ha32 : -2147483648 ≤ a ∧ a < 2147483648) (hK : ∀ τ, FC σ τ → CI τ (keyX X a false) → K (some (.int (iI (keyA X a false)))) τ) : Call l D cA ad (d + 7) mX11_key [.ref 0, .int (iI a), .int (iI 0)] σ K := by
  refine call_go (by decide) (Nat.le_of_ble_eq_true rfl) (show Go l D cA ad (d + 7) mX11_key 0 [.ref 0, .int (iI a), .int (iI 0)] [] σ K from ?_)
  refine go_aload_n dX11_key_0 rfl ?_
  refine go_iload_n dX11_key_1 rfl ?_
  refine go_if_eq (tgt := 9) dX11_key_2 (by decide) (fun h2 => ?_) (fun h2 => ?_)
  · refine go_iconst (v := iI 1) dX11_key_9 (by decide) ?_
    refine go_iload_n dX11_key_10 rfl ?_
    refine go_iconst (v := iI 0) dX11_key_11 (by decide) ?_
    refine go_callV (as := [_, _, _]) wX11_184 dX11_key_12 rfl rfl rfl rfl (Nat.le_of_ble_eq_true rfl) (ct_act1 hR hK0 hC ha32 (fun hc τ fc hC1 => ?_) (fun hc => ?_))
    · refine go_iret rfl rfl dX11_key_15 ?_
      have e1 : keyX X a false = csX X a := by unfold keyX; rw [if_neg (by decide), if_pos hc]
      have e2 : keyA X a false = 1 := by unfold keyA; rw [if_neg (by decide), if_pos hc]
      rw [e1, e2] at hK
      exact hK τ fc hC1
    · refine go_iret rfl rfl dX11_key_15 ?_
      have e1 : keyX X a false = X := by unfold keyX; rw [if_neg (by decide), if_neg hc]
      have e2 : keyA X a false = 0 := by unfold keyA; rw [if_neg (by decide), if_neg hc]
      rw [e1, e2] at hK
      exact hK σ FC.rf hC
  · exact absurd h2 (by decide)

theorem ct_X11_pour {l : Launch} {D : va_G} {cA ad : Nat → Nat} {d : Nat} {σ : AS} {K : Option Value → AS → Prop} {X : XS} {a b : Int} (hR : RO σ) (hK0 : XK X) (hC : CI σ X) (ha32 : -2147483648 ≤ a ∧ a < 2147483648) (hb32 : -2147483648 ≤ b ∧ b < 2147483648) (hK : ∀ τ, FC σ τ → CI τ (pourX X a b) → K (some (.int (iI (pourA X a b)))) τ) : Call l D cA ad (d + 7) mX11_pour [.ref 0, .int (iI a), .int (iI b)] σ K := by
  have hP7 := hK0.s.1
  have hQ9 := hK0.s.2.1
  refine call_go (by decide) (Nat.le_of_ble_eq_true rfl) (show Go l D cA ad (d + 7) mX11_pour 0 [.ref 0, .int (iI a), .int (iI b)] [] σ K from ?_)
  refine go_iload_n dX11_pour_0 rfl ?_
  refine go_bipush (v := iI 9) dX11_pour_1 (by decide) ?_
  refine go_icmp_gt (tgt := 16) dX11_pour_3 (by decide) (fun h3 => ?_) (fun h3 => ?_)
  · rw [iI_lt (by omega)] at h3
    refine go_iconst (v := iI (-1)) dX11_pour_16 (by decide) ?_
    refine go_iret rfl rfl dX11_pour_17 ?_
    have e1 : pourX X a b = X := by unfold pourX; rw [if_neg (by omega)]
    have e2 : pourA X a b = -1 := by unfold pourA; rw [if_neg (by omega)]
    rw [e1, e2] at hK
    exact hK σ FC.rf hC
  · rw [iI_lt (by omega)] at h3
    refine go_aload_n dX11_pour_6 rfl ?_
    refine go_iconst (v := iI 3) dX11_pour_7 (by decide) ?_
    refine go_iload_n dX11_pour_8 rfl ?_
    refine go_iload_n dX11_pour_9 rfl ?_
    refine go_callV (as := [_, _, _]) wX11_184 dX11_pour_10 rfl rfl rfl rfl (Nat.le_of_ble_eq_true rfl) (ct_act3 hR hK0 hC ha32 hb32 (fun hc τ fc hC1 => ?_) (fun hc => ?_))
    · refine go_if_ne (tgt := 18) dX11_pour_13 (by decide) (fun h13 => ?_) (fun h13 => ?_)
      · obtain ⟨n, rfl⟩ : ∃ n : Nat, a = n := ⟨a.toNat, by have := hc.1; omega⟩
        have hnl := hc.2.1
        refine go_aload_n dX11_pour_18 rfl ?_
        refine go_getR fX11_58 dX11_pour_19 rfl (fc.RO hR _ _ _ rfl) ?_
        refine go_getR fX11_149 dX11_pour_22 rfl (fc.RO hR _ _ _ rfl) ?_
        refine go_iload_n dX11_pour_25 rfl ?_
        refine go_iald dX11_pour_26 rfl (vp_iI (by omega)) ?_
        rw [cl_n _ (by omega), (hC1.2.2.1.1 n (by omega)).1]
        refine go_iret rfl rfl dX11_pour_27 ?_
        have e1 : pourX X n b = poX X n b := by unfold pourX; rw [if_pos ⟨by omega, hc⟩]
        have e2 : pourA X n b = wa (xw X) n + b := by unfold pourA; rw [if_pos ⟨by omega, hc⟩]; rfl
        have e3 : wa (xw (poX X n b)) n = wa (xw X) n + b := setF_a
        rw [e1, e2] at hK
        rw [e3]
        exact hK τ fc hC1
      · exact absurd h13 (by decide)
    · refine go_if_ne (tgt := 18) dX11_pour_13 (by decide) (fun h13 => ?_) (fun h13 => ?_)
      · exact absurd h13 (by decide)
      · refine go_iconst (v := iI (-1)) dX11_pour_16 (by decide) ?_
        refine go_iret rfl rfl dX11_pour_17 ?_
        have e1 : pourX X a b = X := by unfold pourX; rw [if_neg (fun q => hc q.2)]
        have e2 : pourA X a b = -1 := by unfold pourA; rw [if_neg (fun q => hc q.2)]
        rw [e1, e2] at hK
        exact hK σ FC.rf hC

theorem ct_X11_days {l : Launch} {D : va_G} {cA ad : Nat → Nat} {d : Nat} {σ : AS} {K : Option Value → AS → Prop} {X : XS} {a : Int} (hR : RO σ) (hK0 : XK X) (hC : CI σ X) (ha32 : -2147483648 ≤ a ∧ a < 2147483648) (hK : ∀ τ, FC σ τ → CI τ (daysY X a) → K (some (.int (iI (daysA X a)))) τ) : Call l D cA ad (d + 7) mX11_days [.ref 0, .int (iI a)] σ K := by
  have hP7 := hK0.s.1
  have hQ9 := hK0.s.2.1
  refine call_go (by decide) (Nat.le_of_ble_eq_true rfl) (show Go l D cA ad (d + 7) mX11_days 0 [.ref 0, .int (iI a)] [] σ K from ?_)
  refine go_iload_n dX11_days_0 rfl ?_
  refine go_bipush (v := iI 60) dX11_days_1 (by decide) ?_
  refine go_icmp_gt (tgt := 26) dX11_days_3 (by decide) (fun h3 => ?_) (fun h3 => ?_)
  · rw [iI_lt (by omega)] at h3
    refine go_iconst (v := iI (-1)) dX11_days_26 (by decide) ?_
    refine go_iret rfl rfl dX11_days_27 ?_
    have e1 : daysY X a = X := by unfold daysY; rw [if_neg (by omega)]
    have e2 : daysA X a = -1 := by unfold daysA; rw [if_neg (by omega)]
    rw [e1, e2] at hK
    exact hK σ FC.rf hC
  · rw [iI_lt (by omega)] at h3
    refine go_aload_n dX11_days_6 rfl ?_
    refine go_iconst (v := iI 2) dX11_days_7 (by decide) ?_
    refine go_iload_n dX11_days_8 rfl ?_
    refine go_iconst (v := iI 0) dX11_days_9 (by decide) ?_
    refine go_callV (as := [_, _, _]) wX11_184 dX11_days_10 rfl rfl rfl rfl (Nat.le_of_ble_eq_true rfl) (ct_act2 hR hK0 hC ha32 (fun hc τ fc hC1 => ?_) (fun hc => ?_))
    · refine go_if_eq (tgt := 26) dX11_days_13 (by decide) (fun h13 => ?_) (fun h13 => ?_)
      · exact absurd h13 (by decide)
      · refine go_aload_n dX11_days_16 rfl ?_
        refine go_getR fX11_58 dX11_days_17 rfl (fc.RO hR _ _ _ rfl) ?_
        refine go_getI fX11_192 dX11_days_20 rfl ?_
        rw [hC1.2.2.1.2.2.2]
        refine go_goto (tgt := 27) dX11_days_23 (by decide) ?_
        refine go_iret rfl rfl dX11_days_27 ?_
        have h8 := (XK_days a.toNat X hK0 (by omega)).2.1
        have e1 : daysY X a = daysX a.toNat X := by unfold daysY; rw [if_pos ⟨by omega, hc⟩]
        have e2 : daysA X a = (dy (xw X) : Int) + a := by unfold daysA; rw [if_pos ⟨by omega, hc⟩]
        rw [e1, e2] at hK
        rw [h8, show ((dy (xw X) + a.toNat : Nat) : Int) = (dy (xw X) : Int) + a by omega]
        exact hK τ fc hC1
    · refine go_if_eq (tgt := 26) dX11_days_13 (by decide) (fun h13 => ?_) (fun h13 => ?_)
      · refine go_iconst (v := iI (-1)) dX11_days_26 (by decide) ?_
        refine go_iret rfl rfl dX11_days_27 ?_
        have e1 : daysY X a = X := by unfold daysY; rw [if_neg (fun q => hc q.2)]
        have e2 : daysA X a = -1 := by unfold daysA; rw [if_neg (fun q => hc q.2)]
        rw [e1, e2] at hK
        exact hK σ FC.rf hC
      · exact absurd h13 (by decide)

def stkF (w : WT) (p : Nat) (n : Int) : WT := if n = 0 then (wa w, ca w, setF (pk w) p (pk w p + 1), w.2.2.2) else (wa w, setF (ca w) p (ca w p + n), pk w, w.2.2.2)
abbrev canS (s : PS) (w : WT) (a n : Int) : Prop := (0 ≤ a ∧ a < nP s) ∧ (0 ≤ n ∧ n ≤ 9) ∧ (n = 0 → pk w a.toNat + 1 ≤ 9) ∧ (n ≠ 0 → ca w a.toNat + n ≤ 99)
def stockX (X : XS) (a n : Int) : XS := if canS (xs X) (xw X) a n then setW (remX X) (stkF (xw X) a.toNat n) else X
def stockA (X : XS) (a n : Int) : Int := if canS (xs X) (xw X) a n then (if n = 0 then pk (xw X) a.toNat + 1 else ca (xw X) a.toNat + n) else -1
theorem stkF_ok {s : PS} {w : WT} {p : Nat} {n : Int} (h : WK s w) (hp : p < nP s) (hn : 0 ≤ n) (h0 : n = 0 → pk w p + 1 ≤ 9) (h1 : n ≠ 0 → ca w p + n ≤ 99) : WK s (stkF w p n) := by
  have hpp := h.1 p hp
  unfold stkF
  split
  · rename_i e
    have h0 := h0 e
    refine ⟨fun i hi => ?_, fun i hi => ?_, h.2.2⟩
    · have hi1 := h.1 i hi
      refine ⟨hi1.1, hi1.2.1, hi1.2.2.1, hi1.2.2.2.1, ?_⟩
      show 0 ≤ setF (pk w) p (pk w p + 1) i ∧ setF (pk w) p (pk w p + 1) i ≤ 9
      unfold setF; split <;> omega
    · refine ⟨(h.2.1 i hi).1, (h.2.1 i hi).2.1, ?_⟩
      show setF (pk w) p (pk w p + 1) i = 0
      rw [setF_n (by omega)]
      exact (h.2.1 i hi).2.2
  · rename_i e
    have h1 := h1 e
    refine ⟨fun i hi => ?_, fun i hi => ?_, h.2.2⟩
    · have hi1 := h.1 i hi
      refine ⟨hi1.1, hi1.2.1, ?_⟩
      show 0 ≤ setF (ca w) p (ca w p + n) i ∧ setF (ca w) p (ca w p + n) i ≤ 99 ∧ _
      refine ⟨?_, ?_, hi1.2.2.2.2⟩ <;> (unfold setF; split <;> omega)
    · refine ⟨(h.2.1 i hi).1, ?_, (h.2.1 i hi).2.2⟩
      show setF (ca w) p (ca w p + n) i = 0
      rw [setF_n (by omega)]
      exact (h.2.1 i hi).2.1
theorem stkF_dy {w : WT} {p : Nat} {n : Int} : dy (stkF w p n) = dy w := by unfold stkF; split <;> rfl
theorem stockK {X : XS} {a n : Int} (h : XK X) : XK (stockX X a n) := by
  unfold stockX
  split
  · rename_i q
    exact XK_set (XK_rem h) (show WK (xs X) _ from stkF_ok h.w (by have := q.1; omega) q.2.1.1 q.2.2.1 q.2.2.2) stkF_dy
  · exact h
theorem WC_pk {σ : AS} {b p : Nat} {w : WT} {v : Int} (hW : WC σ b w) : WC (sI σ (b + 3) (upd (σ.1 (b + 3)) p (iI v))) b (wa w, ca w, setF (pk w) p v, w.2.2.2) := by
  refine ⟨fun i hi => ⟨?_, ?_, ?_⟩, ?_, ?_, ?_⟩
  · rw [sI_ne _ _ _ _ (by omega)]; exact (hW.1 i hi).1
  · rw [sI_ne _ _ _ _ (by omega)]; exact (hW.1 i hi).2.1
  · rw [sI_same]; exact set_ok (fun i hi => (hW.1 i hi).2.2) hi
  · rw [sI_ne _ _ _ _ (by omega)]; exact hW.2.1
  · rw [sI_ne _ _ _ _ (by omega)]; exact hW.2.2.1
  · rw [sI_ne _ _ _ _ (by omega)]; exact hW.2.2.2
theorem WC_ca {σ : AS} {b p : Nat} {w : WT} {v : Int} (hW : WC σ b w) : WC (sI σ (b + 2) (upd (σ.1 (b + 2)) p (iI v))) b (wa w, setF (ca w) p v, pk w, w.2.2.2) := by
  refine ⟨fun i hi => ⟨?_, ?_, ?_⟩, ?_, ?_, ?_⟩
  · rw [sI_ne _ _ _ _ (by omega)]; exact (hW.1 i hi).1
  · rw [sI_same]; exact set_ok (fun i hi => (hW.1 i hi).2.1) hi
  · rw [sI_ne _ _ _ _ (by omega)]; exact (hW.1 i hi).2.2
  · rw [sI_ne _ _ _ _ (by omega)]; exact hW.2.1
  · rw [sI_ne _ _ _ _ (by omega)]; exact hW.2.2.1
  · rw [sI_ne _ _ _ _ (by omega)]; exact hW.2.2.2
theorem ct_X11_stock {l : Launch} {D : va_G} {cA ad : Nat → Nat} {d : Nat} {σ : AS} {K : Option Value → AS → Prop} {X : XS} {a n : Int} (hR : RO σ) (hK0 : XK X) (hC : CI σ X) (ha32 : -2147483648 ≤ a ∧ a < 2147483648) (hn32 : -2147483648 ≤ n ∧ n < 2147483648) (hK : ∀ τ, FC σ τ → CI τ (stockX X a n) → K (some (.int (iI (stockA X a n)))) τ) : Call l D cA ad (d + 3) mX11_stock [.ref 0, .int (iI a), .int (iI n)] σ K := by
  have hP7 := hK0.s.1
  have hQ9 := hK0.s.2.1
  refine call_go (by decide) (Nat.le_of_ble_eq_true rfl) (show Go l D cA ad (d + 3) mX11_stock 0 [.ref 0, .int (iI a), .int (iI n), .null, .null, .null] [] σ K from ?_)
  refine go_aload_n dX11_stock_0 rfl ?_
  refine go_getR fX11_19 dX11_stock_1 rfl (hR _ _ _ rfl) ?_
  refine go_iload_n dX11_stock_4 rfl ?_
  refine go_callV (as := [_]) wX11_142 dX11_stock_5 rfl rfl rfl rfl (Nat.le_of_ble_eq_true rfl) (ct_hasPond2 ha32 hC.2.1 hK0.s (fun k hke hkl => ?_) (fun hkx => ?_))
  · refine go_if_eq (tgt := 21) dX11_stock_8 (by decide) (fun h8 => ?_) (fun h8 => ?_)
    · exact absurd h8 (by decide)
    · refine go_iload_n dX11_stock_11 rfl ?_
      refine go_if_lt (tgt := 21) dX11_stock_12 (by decide) (fun h12 => ?_) (fun h12 => ?_)
      · rw [iI_lt0 (by omega)] at h12
        refine go_iconst (v := iI (-1)) dX11_stock_21 (by decide) ?_
        refine go_iret rfl rfl dX11_stock_22 ?_
        have e1 : stockX X a n = X := by unfold stockX; rw [if_neg (by omega)]
        have e2 : stockA X a n = -1 := by unfold stockA; rw [if_neg (by omega)]
        rw [e1, e2] at hK
        exact hK σ FC.rf hC
      · rw [iI_lt0 (by omega)] at h12
        refine go_iload_n dX11_stock_15 rfl ?_
        refine go_bipush (v := iI 9) dX11_stock_16 (by decide) ?_
        refine go_icmp_le (tgt := 23) dX11_stock_18 (by decide) (fun h18 => ?_) (fun h18 => ?_)
        · rw [iI_le (by omega)] at h18
          subst hke
          have h7 := wk7 hK0.s hK0.w k
          by_cases hz : n = 0
          · refine go_iload_n dX11_stock_23 rfl ?_
            refine go_if_ne (tgt := 37) dX11_stock_24 (by decide) (fun h24 => ?_) (fun h24 => ?_)
            · exact absurd (by rw [hz]; rfl) h24
            · refine go_aload_n dX11_stock_27 rfl ?_
              refine go_getR fX11_58 dX11_stock_28 rfl (hR _ _ _ rfl) ?_
              refine go_getR fX11_155 dX11_stock_31 rfl (hR _ _ _ rfl) ?_
              refine go_goto (tgt := 44) dX11_stock_34 (by decide) ?_
              refine go_astore_n dX11_stock_44 (Nat.le_of_ble_eq_true rfl) rfl ?_
              refine go_iload_n dX11_stock_45 rfl ?_
              refine go_if_ne (tgt := 53) dX11_stock_46 (by decide) (fun h46 => ?_) (fun h46 => ?_)
              · exact absurd (by rw [hz]; rfl) h46
              · refine go_iconst (v := iI 1) dX11_stock_49 (by decide) ?_
                refine go_goto (tgt := 54) dX11_stock_50 (by decide) ?_
                refine go_istore dX11_stock_54 (Nat.le_of_ble_eq_true rfl) rfl ?_
                refine go_iload_n dX11_stock_56 rfl ?_
                refine go_if_ne (tgt := 65) dX11_stock_57 (by decide) (fun h57 => ?_) (fun h57 => ?_)
                · exact absurd (by rw [hz]; rfl) h57
                · refine go_bipush (v := iI 9) dX11_stock_60 (by decide) ?_
                  refine go_goto (tgt := 67) dX11_stock_62 (by decide) ?_
                  refine go_istore dX11_stock_67 (Nat.le_of_ble_eq_true rfl) rfl ?_
                  refine go_aload_n dX11_stock_69 rfl ?_
                  refine go_iload_n dX11_stock_70 rfl ?_
                  refine go_iald dX11_stock_71 rfl (vp_iI (by omega)) ?_
                  rw [cl_n _ (by omega), (hC.2.2.1.1 k (by omega)).2.2]
                  refine go_iload dX11_stock_72 rfl ?_
                  refine go_iadd dX11_stock_74 ?_
                  rw [iI_add]
                  refine go_iload dX11_stock_75 rfl ?_
                  refine go_icmp_le (tgt := 82) dX11_stock_77 (by decide) (fun h77 => ?_) (fun h77 => ?_)
                  · rw [iI_le (by omega)] at h77
                    refine go_aload_n dX11_stock_82 rfl ?_
                    refine go_getR fX11_72 dX11_stock_83 rfl (hR _ _ _ rfl) ?_
                    refine go_aload_n dX11_stock_86 rfl ?_
                    refine go_getR fX11_58 dX11_stock_87 rfl (hR _ _ _ rfl) ?_
                    refine go_aload_n dX11_stock_90 rfl ?_
                    refine go_getR fX11_65 dX11_stock_91 rfl (hR _ _ _ rfl) ?_
                    refine go_callV (as := [_, _]) wX11_188 dX11_stock_94 rfl rfl rfl rfl (Nat.le_of_ble_eq_true rfl) (ct_remC hR hK0 hC (fun τ fc hC1 => ?_))
                    have hW1 := (hC1.2.2.1.1 k (by omega)).2.2
                    refine go_aload_n dX11_stock_97 rfl ?_
                    refine go_iload_n dX11_stock_98 rfl ?_
                    refine go_dup2 dX11_stock_99 rfl rfl ?_
                    refine go_iald dX11_stock_100 rfl (vp_iI (by omega)) ?_
                    rw [cl_n _ (by omega)]
                    rw [show τ.1 90 k = iI (pk (xw X) k) from hW1]
                    refine go_iload dX11_stock_101 rfl ?_
                    refine go_iadd dX11_stock_103 ?_
                    rw [iI_add]
                    refine go_iast dX11_stock_104 rfl (vp_iI (by omega)) ?_
                    rw [cl_n _ (by omega)]
                    refine go_aload_n dX11_stock_105 rfl ?_
                    refine go_iload_n dX11_stock_106 rfl ?_
                    refine go_iald dX11_stock_107 rfl (vp_iI (by omega)) ?_
                    rw [cl_n _ (by omega), sI_same, upd_same]
                    refine go_iret rfl rfl dX11_stock_108 ?_
                    have hcan : canS (xs X) (xw X) k n := ⟨⟨by omega, by omega⟩, ⟨by omega, by omega⟩, fun q => by rw [Int.toNat_natCast]; omega, fun q => by rw [Int.toNat_natCast]; omega⟩
                    have e1 : stockX X k n = setW (remX X) (stkF (xw X) k n) := by unfold stockX; rw [if_pos hcan]; rfl
                    have e2 : stockA X k n = pk (xw X) k + 1 := by unfold stockA; rw [if_pos hcan, if_pos hz]; rfl
                    have e3 : stkF (xw X) k n = (wa (xw X), ca (xw X), setF (pk (xw X)) k (pk (xw X) k + 1), (xw X).2.2.2) := by unfold stkF; rw [if_pos hz]
                    rw [e1, e2] at hK
                    refine hK _ (fc.sI (by decide)) (CI_set hC1 (XK_rem hK0) (Fr.rf.sI (by decide) (by decide)) ?_ stkF_dy)
                    rw [e3]
                    exact WC_pk hC1.2.2.1
                  · rw [iI_le (by omega)] at h77
                    refine go_iconst (v := iI (-1)) dX11_stock_80 (by decide) ?_
                    refine go_iret rfl rfl dX11_stock_81 ?_
                    have hcan : ¬ canS (xs X) (xw X) k n := fun q => by have q3 := q.2.2.1; have q4 := q.2.2.2; rw [Int.toNat_natCast] at q3 q4; have q5 := q3 hz; omega
                    have e1 : stockX X k n = X := by unfold stockX; rw [if_neg hcan]
                    have e2 : stockA X k n = -1 := by unfold stockA; rw [if_neg hcan]
                    rw [e1, e2] at hK
                    exact hK σ FC.rf hC
          · refine go_iload_n dX11_stock_23 rfl ?_
            refine go_if_ne (tgt := 37) dX11_stock_24 (by decide) (fun h24 => ?_) (fun h24 => ?_)
            · refine go_aload_n dX11_stock_37 rfl ?_
              refine go_getR fX11_58 dX11_stock_38 rfl (hR _ _ _ rfl) ?_
              refine go_getR fX11_152 dX11_stock_41 rfl (hR _ _ _ rfl) ?_
              refine go_astore_n dX11_stock_44 (Nat.le_of_ble_eq_true rfl) rfl ?_
              refine go_iload_n dX11_stock_45 rfl ?_
              refine go_if_ne (tgt := 53) dX11_stock_46 (by decide) (fun h46 => ?_) (fun h46 => ?_)
              · refine go_iload_n dX11_stock_53 rfl ?_
                refine go_istore dX11_stock_54 (Nat.le_of_ble_eq_true rfl) rfl ?_
                refine go_iload_n dX11_stock_56 rfl ?_
                refine go_if_ne (tgt := 65) dX11_stock_57 (by decide) (fun h57 => ?_) (fun h57 => ?_)
                · refine go_bipush (v := iI 99) dX11_stock_65 (by decide) ?_
                  refine go_istore dX11_stock_67 (Nat.le_of_ble_eq_true rfl) rfl ?_
                  refine go_aload_n dX11_stock_69 rfl ?_
                  refine go_iload_n dX11_stock_70 rfl ?_
                  refine go_iald dX11_stock_71 rfl (vp_iI (by omega)) ?_
                  rw [cl_n _ (by omega), (hC.2.2.1.1 k (by omega)).2.1]
                  refine go_iload dX11_stock_72 rfl ?_
                  refine go_iadd dX11_stock_74 ?_
                  rw [iI_add]
                  refine go_iload dX11_stock_75 rfl ?_
                  refine go_icmp_le (tgt := 82) dX11_stock_77 (by decide) (fun h77 => ?_) (fun h77 => ?_)
                  · rw [iI_le (by omega)] at h77
                    refine go_aload_n dX11_stock_82 rfl ?_
                    refine go_getR fX11_72 dX11_stock_83 rfl (hR _ _ _ rfl) ?_
                    refine go_aload_n dX11_stock_86 rfl ?_
                    refine go_getR fX11_58 dX11_stock_87 rfl (hR _ _ _ rfl) ?_
                    refine go_aload_n dX11_stock_90 rfl ?_
                    refine go_getR fX11_65 dX11_stock_91 rfl (hR _ _ _ rfl) ?_
                    refine go_callV (as := [_, _]) wX11_188 dX11_stock_94 rfl rfl rfl rfl (Nat.le_of_ble_eq_true rfl) (ct_remC hR hK0 hC (fun τ fc hC1 => ?_))
                    have hW1 := (hC1.2.2.1.1 k (by omega)).2.1
                    refine go_aload_n dX11_stock_97 rfl ?_
                    refine go_iload_n dX11_stock_98 rfl ?_
                    refine go_dup2 dX11_stock_99 rfl rfl ?_
                    refine go_iald dX11_stock_100 rfl (vp_iI (by omega)) ?_
                    rw [cl_n _ (by omega)]
                    rw [show τ.1 89 k = iI (ca (xw X) k) from hW1]
                    refine go_iload dX11_stock_101 rfl ?_
                    refine go_iadd dX11_stock_103 ?_
                    rw [iI_add]
                    refine go_iast dX11_stock_104 rfl (vp_iI (by omega)) ?_
                    rw [cl_n _ (by omega)]
                    refine go_aload_n dX11_stock_105 rfl ?_
                    refine go_iload_n dX11_stock_106 rfl ?_
                    refine go_iald dX11_stock_107 rfl (vp_iI (by omega)) ?_
                    rw [cl_n _ (by omega), sI_same, upd_same]
                    refine go_iret rfl rfl dX11_stock_108 ?_
                    have hcan : canS (xs X) (xw X) k n := ⟨⟨by omega, by omega⟩, ⟨by omega, by omega⟩, fun q => by rw [Int.toNat_natCast]; omega, fun q => by rw [Int.toNat_natCast]; omega⟩
                    have e1 : stockX X k n = setW (remX X) (stkF (xw X) k n) := by unfold stockX; rw [if_pos hcan]; rfl
                    have e2 : stockA X k n = ca (xw X) k + n := by unfold stockA; rw [if_pos hcan, if_neg hz]; rfl
                    have e3 : stkF (xw X) k n = (wa (xw X), setF (ca (xw X)) k (ca (xw X) k + n), pk (xw X), (xw X).2.2.2) := by unfold stkF; rw [if_neg hz]
                    rw [e1, e2] at hK
                    refine hK _ (fc.sI (by decide)) (CI_set hC1 (XK_rem hK0) (Fr.rf.sI (by decide) (by decide)) ?_ stkF_dy)
                    rw [e3]
                    exact WC_ca hC1.2.2.1
                  · rw [iI_le (by omega)] at h77
                    refine go_iconst (v := iI (-1)) dX11_stock_80 (by decide) ?_
                    refine go_iret rfl rfl dX11_stock_81 ?_
                    have hcan : ¬ canS (xs X) (xw X) k n := fun q => by have q3 := q.2.2.1; have q4 := q.2.2.2; rw [Int.toNat_natCast] at q3 q4; have q5 := q4 hz; omega
                    have e1 : stockX X k n = X := by unfold stockX; rw [if_neg hcan]
                    have e2 : stockA X k n = -1 := by unfold stockA; rw [if_neg hcan]
                    rw [e1, e2] at hK
                    exact hK σ FC.rf hC
                · exfalso
                  rw [iI_eq0 (by omega)] at h57
                  exact hz h57
              · exfalso
                rw [iI_eq0 (by omega)] at h46
                exact hz h46
            · exfalso
              rw [iI_eq0 (by omega)] at h24
              exact hz h24
        · rw [iI_le (by omega)] at h18
          refine go_iconst (v := iI (-1)) dX11_stock_21 (by decide) ?_
          refine go_iret rfl rfl dX11_stock_22 ?_
          have e1 : stockX X a n = X := by unfold stockX; rw [if_neg (by omega)]
          have e2 : stockA X a n = -1 := by unfold stockA; rw [if_neg (by omega)]
          rw [e1, e2] at hK
          exact hK σ FC.rf hC
  · refine go_if_eq (tgt := 21) dX11_stock_8 (by decide) (fun h8 => ?_) (fun h8 => ?_)
    · refine go_iconst (v := iI (-1)) dX11_stock_21 (by decide) ?_
      refine go_iret rfl rfl dX11_stock_22 ?_
      have e1 : stockX X a n = X := by unfold stockX; rw [if_neg (by omega)]
      have e2 : stockA X a n = -1 := by unfold stockA; rw [if_neg (by omega)]
      rw [e1, e2] at hK
      exact hK σ FC.rf hC
    · exact absurd h8 (by decide)

def undX (X : XS) : XS := match xa X with
  | [] => X
  | a :: l => upX X a (xl X) l
def undA (X : XS) : Int := ((xa X).length : Int) - 1
theorem undX_0 {X : XS} (h : xa X = []) : undX X = X := by unfold undX; rw [h]
theorem undX_1 {X : XS} {a : WT} {l : List WT} (h : xa X = a :: l) : undX X = upX X a (xl X) l := by unfold undX; rw [h]
theorem undK {X : XS} (h : XK X) : XK (undX X) := by
  cases e : xa X with
  | nil => rw [undX_0 e]; exact h
  | cons a l =>
    rw [undX_1 e]
    have ha := h.a
    rw [e] at ha
    have hc : dy a ≤ dy (xw X) ∧ dy (xw X) ≤ dy a + 1 ∧ Chn a l := ha.2.1
    have hl := ha.1
    rw [List.length_cons] at hl
    exact ⟨h.t, h.s, ha.2.2 a (List.mem_cons_self ..), by have := h.d; show dy a ≤ 9999; omega, ⟨show l.length ≤ 40 by omega, hc.2.2, fun b hb => ha.2.2 b (List.mem_cons_of_mem _ hb)⟩, h.i, h.m, h.L, h.p, h.o, h.k⟩
theorem CI_und {σ τ : AS} {X : XS} {a : WT} {l : List WT} (hC : CI σ X) (hK : XK X) (e : xa X = a :: l) (fs : FrS [87, 88, 89, 90, 91, 93] σ τ) (hW : WC τ 87 a) (h1 : τ.1 91 0 = iI (dy a)) (hA : AcC τ l) : CI τ (undX X) := by
  rw [undX_1 e]
  refine hC.up hK (fun k hk h => fs.2 k (by simp only [List.mem_cons, List.not_mem_nil, or_false]; omega)) (fs.2 1 (by decide)) hW ⟨h1, fun b hb => ?_⟩ hA
  rw [fs.2 92 (by decide)]
  exact hC.2.2.2.1.2 b (List.mem_cons_of_mem _ (by rw [e]; exact hb))
theorem ct_X11_undo {l : Launch} {D : va_G} {cA ad : Nat → Nat} {d : Nat} {σ : AS} {K : Option Value → AS → Prop} {X : XS} (hR : RO σ) (hK0 : XK X) (hC : CI σ X) (hK : ∀ τ, FC σ τ → CI τ (undX X) → K (some (.int (iI (undA X)))) τ) : Call l D cA ad (d + 3) mX11_undo [.ref 0] σ K := by
  refine call_go (by decide) (Nat.le_of_ble_eq_true rfl) (show Go l D cA ad (d + 3) mX11_undo 0 [.ref 0] [] σ K from ?_)
  refine go_aload_n dX11_undo_0 rfl ?_
  refine go_getR fX11_72 dX11_undo_1 rfl (hR _ _ _ rfl) ?_
  refine go_aload_n dX11_undo_4 rfl ?_
  refine go_getR fX11_58 dX11_undo_5 rfl (hR _ _ _ rfl) ?_
  refine go_aload_n dX11_undo_8 rfl ?_
  refine go_getR fX11_65 dX11_undo_9 rfl (hR _ _ _ rfl) ?_
  refine go_callV (as := [_, _]) wX11_209 dX11_undo_12 rfl rfl rfl rfl (Nat.le_of_ble_eq_true rfl) (ct_X0_takeBack hR hK0.a.1 hC.2.2.2.2.1 (fun h0 => ?_) (fun a l h1 τ fs hW hd hA => ?_))
  · refine go_if_eq (tgt := 28) dX11_undo_15 (by decide) (fun h15 => ?_) (fun h15 => ?_)
    · refine go_iconst (v := iI (-1)) dX11_undo_28 (by decide) ?_
      refine go_iret rfl rfl dX11_undo_29 ?_
      rw [undX_0 h0, show undA X = -1 by unfold undA; rw [h0]; rfl] at hK
      exact hK σ FC.rf hC
    · exact absurd h15 (by decide)
  · refine go_if_eq (tgt := 28) dX11_undo_15 (by decide) (fun h15 => ?_) (fun h15 => ?_)
    · exact absurd h15 (by decide)
    · refine go_aload_n dX11_undo_18 rfl ?_
      refine go_getR fX11_72 dX11_undo_19 rfl (fs.RO hR _ _ _ rfl) ?_
      refine go_getI fX11_213 dX11_undo_22 rfl ?_
      rw [hA.1]
      refine go_goto (tgt := 29) dX11_undo_25 (by decide) ?_
      refine go_iret rfl rfl dX11_undo_29 ?_
      rw [show undA X = (l.length : Int) by unfold undA; rw [h1, List.length_cons]; omega] at hK
      exact hK τ (FC.ofS fs (by decide)) (CI_und hC hK0 h1 fs hW hd hA)

