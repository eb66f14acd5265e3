/-! reading a text: t, the place a -/
def sk (t : List Nat) (a : Nat) : Nat := a + ((t.drop a).takeWhile (fun b => b == 32)).length
def ch (t : List Nat) (p : Nat) : Int := match t[p]? with
  | some b => b
  | none => -1
theorem sk_sp {t : List Nat} {a : Nat} (h : t[a]? = some 32) : sk t a = sk t (a + 1) := by
  obtain ⟨hl, e⟩ := List.getElem?_eq_some_iff.mp h
  unfold sk
  rw [List.drop_eq_getElem_cons hl, e]
  simp
  omega
theorem sk_no {t : List Nat} {a : Nat} (h : t[a]? ≠ some 32) : sk t a = a := by
  unfold sk
  by_cases hl : a < t.length
  · have : t[a] ≠ 32 := fun e => h (by rw [List.getElem?_eq_getElem hl, e])
    rw [List.drop_eq_getElem_cons hl, List.takeWhile_cons_of_neg (by simpa using this)]
    rfl
  · rw [List.drop_eq_nil_of_le (by omega)]; simp
theorem sk_le {t : List Nat} {a : Nat} (h : a ≤ t.length) : sk t a ≤ t.length := by
  unfold sk
  have h1 := (List.takeWhile_prefix (p := fun b => b == 32) (l := t.drop a)).length_le
  rw [List.length_drop] at h1
  omega
theorem sk_ge (t : List Nat) (a : Nat) : a ≤ sk t a := Nat.le_add_right _ _
theorem sk_end {t : List Nat} {a : Nat} : t[sk t a]? ≠ some 32 := by
  intro h
  unfold sk at h
  have e : (t.drop a)[((t.drop a).takeWhile (fun b => b == 32)).length]? = some 32 := by rw [List.getElem?_drop]; exact h
  generalize t.drop a = u at e
  clear h
  induction u with
  | nil => simp at e
  | cons b u ih =>
    by_cases hb : b = 32
    · subst hb; simp at e; exact ih (by simpa using e)
    · have : (b == 32) = false := by simpa using hb
      simp [List.takeWhile_cons, this] at e
      exact hb e
theorem sk_sk (t : List Nat) (a : Nat) : sk t (sk t a) = sk t a := sk_no sk_end
theorem ch_in {t : List Nat} {p b : Nat} (h : t[p]? = some b) : ch t p = b := by unfold ch; rw [h]
theorem ch_out {t : List Nat} {p : Nat} (h : t.length ≤ p) : ch t p = -1 := by unfold ch; rw [List.getElem?_eq_none h]
theorem ch_lt {t : List Nat} (ht : TOK t) (p : Nat) : -1 ≤ ch t p ∧ ch t p ≤ 255 := by
  unfold ch
  cases h : t[p]? with
  | none => dsimp only; omega
  | some b => have := ht.2 b (List.mem_of_getElem? h); dsimp only; omega
def atc (σ : AS) (a : Nat) : AS := sI σ 1 (upd (σ.1 1) 2 (iI a))
theorem atc_at (σ : AS) (a : Nat) : (atc σ a).1 1 2 = iI a := by unfold atc; rw [sI_same, upd_same]
theorem atc_ln (σ : AS) (a : Nat) : (atc σ a).1 1 1 = σ.1 1 1 := by unfold atc; rw [sI_same, upd_ne _ _ _ _ (by decide)]
theorem atc_ne (σ : AS) (a k : Nat) (h : k ≠ 1) : (atc σ a).1 k = σ.1 k := by unfold atc; rw [sI_ne _ _ _ _ h]
theorem atc_atc (σ : AS) (a b : Nat) : atc (atc σ a) b = atc σ b := by unfold atc; rw [sI_same, upd_upd, sI_sI]
theorem atc_inc (σ : AS) (a : Nat) : sI (atc σ a) 1 (upd ((atc σ a).1 1) 2 ((atc σ a).1 1 2 + iI 1)) = atc σ (a + 1) := by
  rw [atc_at, iI_add, show ((a : Int) + 1) = ((a + 1 : Nat) : Int) by omega]
  exact atc_atc σ a (a + 1)
theorem atc_dec (σ : AS) (a : Nat) : sI (atc σ (a + 1)) 1 (upd ((atc σ (a + 1)).1 1) 2 ((atc σ (a + 1)).1 1 2 - iI 1)) = atc σ a := by
  rw [atc_at, iI_sub, show (((a + 1 : Nat) : Int) - 1) = ((a : Nat) : Int) by omega]
  exact atc_atc σ (a + 1) a
theorem TC_atc {σ : AS} {t : List Nat} {a : Nat} (h : TC σ t) : TC (atc σ a) t := ⟨by rw [atc_ln]; exact h.1, fun i b hb => by rw [atc_ne _ _ _ (by decide)]; exact h.2 i b hb⟩
theorem RO_atc {σ : AS} {a : Nat} (h : RO σ) : RO (atc σ a) := h
theorem TC_rd {σ : AS} {t : List Nat} {a p : Nat} (h : TC σ t) (hp : p < t.length) : (atc σ a).1 2 p = iI (ch t p) := by
  rw [atc_ne _ _ _ (by decide), h.2 p t[p] (List.getElem?_eq_getElem hp), ch_in (List.getElem?_eq_getElem hp)]
theorem ch_get {t : List Nat} (p : Nat) (hp : p < t.length) : ∃ b, t[p]? = some b ∧ ch t p = b := ⟨t[p], List.getElem?_eq_getElem hp, ch_in (List.getElem?_eq_getElem hp)⟩
/-- a digit at a place -/
def isD (t : List Nat) (p : Nat) : Prop := 48 ≤ ch t p ∧ ch t p ≤ 57
theorem isD_lt {t : List Nat} {p : Nat} (h : isD t p) : p < t.length := by
  rcases Nat.lt_or_ge p t.length with q | q
  · exact q
  · have := ch_out q; unfold isD at h; omega
theorem it_X8_look {l : Launch} {D : va_G} {cA ad : Nat → Nat} {d : Nat} {σ : AS} {K : Option Value → AS → Prop} {t : List Nat} (ht : TOK t) (hR : RO σ) (hT : TC σ t) : ∀ (n a : Nat), t.length - a < n → a ≤ t.length → K (some (.int (iI (ch t (sk t a))))) (atc σ (sk t a)) → Go l D cA ad d mX8_look 0 [.ref 1] [] (atc σ a) K := by
  have ht1 := ht.1
  intro n
  induction n with
  | zero => intro a h; omega
  | succ n ih =>
  intro a hn ha hK
  refine go_aload_n dX8_look_0 rfl ?_
  refine go_getI fX8_19 dX8_look_1 rfl ?_
  refine go_aload_n dX8_look_4 rfl ?_
  refine go_getI fX8_15 dX8_look_5 rfl ?_
  refine go_icmp_ge (tgt := 38) dX8_look_8 (by decide) (fun h8 => ?_) (fun h8 => ?_)
  · simp only [atc_at, atc_ln, hT.1] at h8
    rw [iI_le (by omega)] at h8
    refine go_aload_n dX8_look_38 rfl ?_
    refine go_getI fX8_19 dX8_look_39 rfl ?_
    refine go_aload_n dX8_look_42 rfl ?_
    refine go_getI fX8_15 dX8_look_43 rfl ?_
    refine go_icmp_ge (tgt := 61) dX8_look_46 (by decide) (fun h46 => ?_) (fun h46 => ?_)
    · simp only [atc_at, atc_ln, hT.1] at h46
      rw [iI_le (by omega)] at h46
      refine go_iconst (v := iI (-1)) dX8_look_61 (by decide) ?_
      refine go_iret rfl rfl dX8_look_62 ?_
      rw [sk_no (by rw [List.getElem?_eq_none (by omega)]; simp), ch_out (by omega)] at hK
      exact hK
    · simp only [atc_at, atc_ln, hT.1] at h46
      rw [iI_le (by omega)] at h46
      refine go_aload_n dX8_look_49 rfl ?_
      refine go_getR fX8_9 dX8_look_50 rfl (hR _ _ _ rfl) ?_
      refine go_aload_n dX8_look_53 rfl ?_
      refine go_getI fX8_19 dX8_look_54 rfl ?_
      refine go_iald dX8_look_57 rfl (by rw [atc_at]; exact vp_iI (by omega)) ?_
      refine go_goto (tgt := 62) dX8_look_58 (by decide) ?_
      refine go_iret rfl rfl dX8_look_62 ?_
      omega
  · simp only [atc_at, atc_ln, hT.1] at h8
    rw [iI_le (by omega)] at h8
    refine go_aload_n dX8_look_11 rfl ?_
    refine go_getR fX8_9 dX8_look_12 rfl (hR _ _ _ rfl) ?_
    refine go_aload_n dX8_look_15 rfl ?_
    refine go_getI fX8_19 dX8_look_16 rfl ?_
    refine go_iald dX8_look_19 rfl (by rw [atc_at]; exact vp_iI (by omega)) ?_
    refine go_bipush (v := iI 32) dX8_look_20 (by decide) ?_
    refine go_icmp_ne (tgt := 38) dX8_look_22 (by decide) (fun h22 => ?_) (fun h22 => ?_)
    · rw [atc_at, iI_cl (by omega), Int.toNat_natCast, TC_rd hT (by omega)] at h22
      obtain ⟨b, hb, hc⟩ := ch_get (t := t) a (by omega)
      have hb2 := ht.2 b (List.mem_of_getElem? hb)
      rw [hc, iI_eq (by omega)] at h22
      refine go_aload_n dX8_look_38 rfl ?_
      refine go_getI fX8_19 dX8_look_39 rfl ?_
      refine go_aload_n dX8_look_42 rfl ?_
      refine go_getI fX8_15 dX8_look_43 rfl ?_
      refine go_icmp_ge (tgt := 61) dX8_look_46 (by decide) (fun h46 => ?_) (fun h46 => ?_)
      · simp only [atc_at, atc_ln, hT.1] at h46
        rw [iI_le (by omega)] at h46
        refine go_iconst (v := iI (-1)) dX8_look_61 (by decide) ?_
        refine go_iret rfl rfl dX8_look_62 ?_
        omega
      · simp only [atc_at, atc_ln, hT.1] at h46
        rw [iI_le (by omega)] at h46
        refine go_aload_n dX8_look_49 rfl ?_
        refine go_getR fX8_9 dX8_look_50 rfl (hR _ _ _ rfl) ?_
        refine go_aload_n dX8_look_53 rfl ?_
        refine go_getI fX8_19 dX8_look_54 rfl ?_
        refine go_iald dX8_look_57 rfl (by rw [atc_at]; exact vp_iI (by omega)) ?_
        refine go_goto (tgt := 62) dX8_look_58 (by decide) ?_
        refine go_iret rfl rfl dX8_look_62 ?_
        rw [sk_no (by rw [hb]; intro q; exact h22 (by have := Option.some.inj q; omega))] at hK
        rw [atc_at, iI_cl (by omega), Int.toNat_natCast, TC_rd hT (by omega)]
        exact hK
    · rw [atc_at, iI_cl (by omega), Int.toNat_natCast, TC_rd hT (by omega)] at h22
      obtain ⟨b, hb, hc⟩ := ch_get (t := t) a (by omega)
      have hb2 := ht.2 b (List.mem_of_getElem? hb)
      rw [hc, iI_eq (by omega)] at h22
      refine go_aload_n dX8_look_25 rfl ?_
      refine go_dup dX8_look_26 rfl ?_
      refine go_getI fX8_19 dX8_look_27 rfl ?_
      refine go_iconst (v := iI 1) dX8_look_30 (by decide) ?_
      refine go_iadd dX8_look_31 ?_
      refine go_putI fX8_19 rfl dX8_look_32 rfl rfl rfl ?_
      refine go_goto (tgt := 0) dX8_look_35 (by decide) ?_
      rw [atc_inc]
      exact ih (a + 1) (by omega) (by omega) (by rw [← sk_sp (by rw [hb]; congr 1; omega)]; exact hK)
theorem ct_X8_look {l : Launch} {D : va_G} {cA ad : Nat → Nat} {d : Nat} {σ : AS} {K : Option Value → AS → Prop} {t : List Nat} {a : Nat} (ht : TOK t) (hR : RO σ) (hT : TC σ t) (ha : a ≤ t.length) (hK : K (some (.int (iI (ch t (sk t a))))) (atc σ (sk t a))) : Call l D cA ad d mX8_look [.ref 1] (atc σ a) K := by
  refine call_go (by decide) (Nat.le_of_ble_eq_true rfl) (show Go l D cA ad d mX8_look 0 [.ref 1] [] (atc σ a) K from ?_)
  exact it_X8_look ht hR hT (t.length - a + 1) a (by omega) ha hK

theorem ct_X8_take {l : Launch} {D : va_G} {cA ad : Nat → Nat} {d : Nat} {σ : AS} {K : Option Value → AS → Prop} {t : List Nat} {a : Nat} {c : Int} (ht : TOK t) (hR : RO σ) (hT : TC σ t) (ha : a ≤ t.length) (hc : 0 ≤ c ∧ c ≤ 255) (hK1 : ch t (sk t a) ≠ c → K (some (.int (iI 0))) (atc σ (sk t a))) (hK2 : ch t (sk t a) = c → K (some (.int (iI 1))) (atc σ (sk t a + 1))) : Call l D cA ad (d + 1) mX8_take [.ref 1, .int (iI c)] (atc σ a) K := by
  refine call_go (by decide) (Nat.le_of_ble_eq_true rfl) (show Go l D cA ad (d + 1) mX8_take 0 [.ref 1, .int (iI c)] [] (atc σ a) K from ?_)
  refine go_aload_n dX8_take_0 rfl ?_
  refine go_callV (as := []) wX8_22 dX8_take_1 rfl rfl rfl rfl (Nat.le_of_ble_eq_true rfl) (ct_X8_look ht hR hT ha ?_)
  refine go_iload_n dX8_take_4 rfl ?_
  refine go_icmp_eq (tgt := 10) dX8_take_5 (by decide) (fun h5 => ?_) (fun h5 => ?_)
  · have := ch_lt ht (sk t a)
    rw [iI_eq (by omega)] at h5
    refine go_aload_n dX8_take_10 rfl ?_
    refine go_dup dX8_take_11 rfl ?_
    refine go_getI fX8_19 dX8_take_12 rfl ?_
    refine go_iconst (v := iI 1) dX8_take_15 (by decide) ?_
    refine go_iadd dX8_take_16 ?_
    refine go_putI fX8_19 rfl dX8_take_17 rfl rfl rfl ?_
    refine go_iconst (v := iI 1) dX8_take_20 (by decide) ?_
    refine go_iret rfl rfl dX8_take_21 ?_
    rw [atc_inc]
    exact hK2 h5
  · have := ch_lt ht (sk t a)
    rw [iI_eq (by omega)] at h5
    refine go_iconst (v := iI 0) dX8_take_8 (by decide) ?_
    refine go_iret rfl rfl dX8_take_9 ?_
    exact hK1 h5

theorem ct_X8_isOnDigit {l : Launch} {D : va_G} {cA ad : Nat → Nat} {d : Nat} {σ : AS} {K : Option Value → AS → Prop} {t : List Nat} {a : Nat} (ht : TOK t) (hR : RO σ) (hT : TC σ t) (ha : a ≤ t.length) (hK1 : ¬ isD t a → K (some (.int (iI 0))) (atc σ a)) (hK2 : isD t a → K (some (.int (iI 1))) (atc σ a)) : Call l D cA ad d mX8_isOnDigit [.ref 1] (atc σ a) K := by
  have ht1 := ht.1
  refine call_go (by decide) (Nat.le_of_ble_eq_true rfl) (show Go l D cA ad d mX8_isOnDigit 0 [.ref 1] [] (atc σ a) K from ?_)
  refine go_aload_n dX8_isOnDigit_0 rfl ?_
  refine go_getI fX8_19 dX8_isOnDigit_1 rfl ?_
  refine go_aload_n dX8_isOnDigit_4 rfl ?_
  refine go_getI fX8_15 dX8_isOnDigit_5 rfl ?_
  refine go_icmp_ge (tgt := 43) dX8_isOnDigit_8 (by decide) (fun h8 => ?_) (fun h8 => ?_)
  · simp only [atc_at, atc_ln, hT.1] at h8
    rw [iI_le (by omega)] at h8
    refine go_iconst (v := iI 0) dX8_isOnDigit_43 (by decide) ?_
    refine go_iret rfl rfl dX8_isOnDigit_44 ?_
    first | exact hK2 (by unfold isD; omega) | exact hK1 (by unfold isD; omega) | exact hK1 (by unfold isD; rw [ch_out (by omega)]; omega)
  · simp only [atc_at, atc_ln, hT.1] at h8
    rw [iI_le (by omega)] at h8
    refine go_aload_n dX8_isOnDigit_11 rfl ?_
    refine go_getR fX8_9 dX8_isOnDigit_12 rfl (hR _ _ _ rfl) ?_
    refine go_aload_n dX8_isOnDigit_15 rfl ?_
    refine go_getI fX8_19 dX8_isOnDigit_16 rfl ?_
    refine go_iald dX8_isOnDigit_19 rfl (by rw [atc_at]; exact vp_iI (by omega)) ?_
    refine go_bipush (v := iI 48) dX8_isOnDigit_20 (by decide) ?_
    refine go_icmp_lt (tgt := 43) dX8_isOnDigit_22 (by decide) (fun h22 => ?_) (fun h22 => ?_)
    · rw [atc_at, iI_cl (by omega), Int.toNat_natCast, TC_rd hT (by omega)] at h22
      have := ch_lt ht a
      rw [iI_lt (by omega)] at h22
      refine go_iconst (v := iI 0) dX8_isOnDigit_43 (by decide) ?_
      refine go_iret rfl rfl dX8_isOnDigit_44 ?_
      first | exact hK2 (by unfold isD; omega) | exact hK1 (by unfold isD; omega) | exact hK1 (by unfold isD; rw [ch_out (by omega)]; omega)
    · rw [atc_at, iI_cl (by omega), Int.toNat_natCast, TC_rd hT (by omega)] at h22
      have := ch_lt ht a
      rw [iI_lt (by omega)] at h22
      refine go_aload_n dX8_isOnDigit_25 rfl ?_
      refine go_getR fX8_9 dX8_isOnDigit_26 rfl (hR _ _ _ rfl) ?_
      refine go_aload_n dX8_isOnDigit_29 rfl ?_
      refine go_getI fX8_19 dX8_isOnDigit_30 rfl ?_
      refine go_iald dX8_isOnDigit_33 rfl (by rw [atc_at]; exact vp_iI (by omega)) ?_
      refine go_bipush (v := iI 57) dX8_isOnDigit_34 (by decide) ?_
      refine go_icmp_gt (tgt := 43) dX8_isOnDigit_36 (by decide) (fun h36 => ?_) (fun h36 => ?_)
      · rw [atc_at, iI_cl (by omega), Int.toNat_natCast, TC_rd hT (by omega), iI_lt (by omega)] at h36
        refine go_iconst (v := iI 0) dX8_isOnDigit_43 (by decide) ?_
        refine go_iret rfl rfl dX8_isOnDigit_44 ?_
        first | exact hK2 (by unfold isD; omega) | exact hK1 (by unfold isD; omega) | exact hK1 (by unfold isD; rw [ch_out (by omega)]; omega)
      · rw [atc_at, iI_cl (by omega), Int.toNat_natCast, TC_rd hT (by omega), iI_lt (by omega)] at h36
        refine go_iconst (v := iI 1) dX8_isOnDigit_39 (by decide) ?_
        refine go_goto (tgt := 44) dX8_isOnDigit_40 (by decide) ?_
        refine go_iret rfl rfl dX8_isOnDigit_44 ?_
        first | exact hK2 (by unfold isD; omega) | exact hK1 (by unfold isD; omega) | exact hK1 (by unfold isD; rw [ch_out (by omega)]; omega)

theorem ct_X8_takeDigit {l : Launch} {D : va_G} {cA ad : Nat → Nat} {d : Nat} {σ : AS} {K : Option Value → AS → Prop} {t : List Nat} {a : Nat} (ht : TOK t) (hR : RO σ) (hT : TC σ t) (ha : a ≤ t.length) (hK1 : ¬ isD t (sk t a) → K (some (.int (iI (-1)))) (atc σ (sk t a))) (hK2 : isD t (sk t a) → K (some (.int (iI (ch t (sk t a) - 48)))) (atc σ (sk t a + 1))) : Call l D cA ad (d + 1) mX8_takeDigit [.ref 1] (atc σ a) K := by
  have ht1 := ht.1
  have hsk := sk_le ha
  refine call_go (by decide) (Nat.le_of_ble_eq_true rfl) (show Go l D cA ad (d + 1) mX8_takeDigit 0 [.ref 1] [] (atc σ a) K from ?_)
  refine go_aload_n dX8_takeDigit_0 rfl ?_
  refine go_callV (as := []) wX8_22 dX8_takeDigit_1 rfl rfl rfl rfl (Nat.le_of_ble_eq_true rfl) (ct_X8_look ht hR hT ha ?_)
  refine go_pop dX8_takeDigit_4 rfl ?_
  refine go_aload_n dX8_takeDigit_5 rfl ?_
  refine go_callV (as := []) wX8_26 dX8_takeDigit_6 rfl rfl rfl rfl (Nat.le_of_ble_eq_true rfl) (ct_X8_isOnDigit ht hR hT hsk (fun hd => ?_) (fun hd => ?_))
  · refine go_if_ne (tgt := 14) dX8_takeDigit_9 (by decide) (fun h9 => ?_) (fun h9 => ?_)
    · exact absurd h9 (by decide)
    · refine go_iconst (v := iI (-1)) dX8_takeDigit_12 (by decide) ?_
      refine go_iret rfl rfl dX8_takeDigit_13 ?_
      exact hK1 hd
  · have hlt := isD_lt hd
    refine go_if_ne (tgt := 14) dX8_takeDigit_9 (by decide) (fun h9 => ?_) (fun h9 => ?_)
    · refine go_aload_n dX8_takeDigit_14 rfl ?_
      refine go_dup dX8_takeDigit_15 rfl ?_
      refine go_getI fX8_19 dX8_takeDigit_16 rfl ?_
      refine go_iconst (v := iI 1) dX8_takeDigit_19 (by decide) ?_
      refine go_iadd dX8_takeDigit_20 ?_
      refine go_putI fX8_19 rfl dX8_takeDigit_21 rfl rfl rfl ?_
      rw [atc_inc]
      refine go_aload_n dX8_takeDigit_24 rfl ?_
      refine go_getR fX8_9 dX8_takeDigit_25 rfl (hR _ _ _ rfl) ?_
      refine go_aload_n dX8_takeDigit_28 rfl ?_
      refine go_getI fX8_19 dX8_takeDigit_29 rfl ?_
      refine go_iconst (v := iI 1) dX8_takeDigit_32 (by decide) ?_
      refine go_isub dX8_takeDigit_33 ?_
      refine go_iald dX8_takeDigit_34 rfl (by rw [atc_at, iI_sub]; exact vp_iI (by omega)) ?_
      refine go_bipush (v := iI 48) dX8_takeDigit_35 (by decide) ?_
      refine go_isub dX8_takeDigit_37 ?_
      refine go_iret rfl rfl dX8_takeDigit_38 ?_
      have e : (atc σ (sk t a + 1)).1 1 2 - iI 1 = iI (sk t a : Nat) := by rw [atc_at, iI_sub]; congr 1; omega
      rw [e, iI_cl (by omega), Int.toNat_natCast, TC_rd hT hlt, iI_sub]
      exact hK2 hd
    · exact absurd h9 (by decide)

