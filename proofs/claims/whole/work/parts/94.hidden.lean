theorem ct_feedC {l : Launch} {D : va_G} {cA ad : Nat → Nat} {d : Nat} {σ : AS} {K : Option Value → AS → Prop} {X : XS} {a b c e f : Int32} (hR : RO σ) (hK0 : XK X) (hC : CI σ X) (hK : ∀ τ, FC σ τ → CI τ (feedX X a b c e f) → K (some (.int (iI (feedA X a b c e f)))) τ) : Call l D cA ad (d + 1) mX11_feed [.ref 0, .int a, .int b, .int c, .int e, .int f] σ K := by
  refine ct_X11_feed hR hK0.t.1 hC.1 (fun h => ?_) (fun h r q hT => ?_)
  · unfold feedX feedA at hK; rw [if_neg h, if_neg h] at hK; exact hK σ FC.rf hC
  · unfold feedX feedA at hK; rw [if_pos h, if_pos h] at hK; exact hK _ FC_t (CI_t hC hK0 hT)
theorem ct_feedM {l : Launch} {D : va_G} {cA ad : Nat → Nat} {d : Nat} {σ : AS} {K : Option Value → AS → Prop} {X : XS} {a b c e f : Int32} (hR : RO σ) (hK0 : XK X) (hC : MI σ X) (hK : ∀ τ, FD σ τ → MI τ (feedX X a b c e f) → K (some (.int (iI (feedA X a b c e f)))) τ) : Call l D cA ad (d + 1) mX12_feed [.ref 111, .int a, .int b, .int c, .int e, .int f] σ K := by
  have hq : DF (xL X) σ (sI σ 111 (upd (σ.1 111) 0 (iI 0))) := DF_f0 DF.rf
  refine ct_X12_feed hR hK0.t.1 hC.1 (fun h => ?_) (fun h r q hT => ?_)
  · unfold feedX feedA at hK; rw [if_neg h, if_neg h] at hK; exact hK _ hq.1 (hC.q hK0 hq)
  · unfold feedX feedA at hK; rw [if_pos h, if_pos h] at hK
    obtain ⟨h1, h2⟩ := MI_t (hC.q hK0 hq) hT
    exact hK _ (hq.1.tr h2) h1
theorem end_len {t : List Nat} {n : Int} (h : 0 ≤ n ∧ n ≤ t.length) : ((t.take n.toNat).length : Int) = n := by rw [List.length_take]; omega
theorem ct_endC {l : Launch} {D : va_G} {cA ad : Nat → Nat} {d : Nat} {σ : AS} {K : Option Value → AS → Prop} {X : XS} {n : Int} (hR : RO σ) (hK0 : XK X) (hC : CI σ X) (hn32 : -2147483648 ≤ n ∧ n < 2147483648) (hK : ∀ τ, FC σ τ → CI τ (endX X n) → K (some (.int (iI (endA X n)))) τ) : Call l D cA ad d mX11_end [.ref 0, .int (iI n)] σ K := by
  have ht := hK0.t.1
  have eq : (0 ≤ iI n ∧ iI n ≤ iI (xt X).length) ↔ (0 ≤ n ∧ n ≤ (xt X).length) := by rw [iI_0le hn32, iI_le ⟨hn32, by omega⟩]
  refine ct_X11_end hR hC.1 (fun h => ?_) (fun h => ?_)
  · rw [eq] at h; unfold endX endA at hK; rw [if_neg h, if_neg h] at hK; exact hK σ FC.rf hC
  · rw [eq] at h; unfold endX endA at hK; rw [if_pos h, if_pos h] at hK
    refine hK _ FC_t (CI_t hC hK0 ⟨?_, fun i b hb => ?_⟩)
    · unfold tset; rw [sI_same, upd_same, end_len h]
    · unfold tset; rw [sI_ne _ _ _ _ (by decide), sI_same]
      rw [List.getElem?_take] at hb
      split at hb
      · exact hC.1.2 i b hb
      · cases hb
theorem ct_endM {l : Launch} {D : va_G} {cA ad : Nat → Nat} {d : Nat} {σ : AS} {K : Option Value → AS → Prop} {X : XS} {n : Int} (hR : RO σ) (hK0 : XK X) (hC : MI σ X) (hn32 : -2147483648 ≤ n ∧ n < 2147483648) (hK : ∀ τ, FD σ τ → MI τ (endX X n) → K (some (.int (iI (endA X n)))) τ) : Call l D cA ad d mX12_end [.ref 111, .int (iI n)] σ K := by
  have ht := hK0.t.1
  have hq : DF (xL X) σ (sI σ 111 (upd (σ.1 111) 0 (iI 0))) := DF_f0 DF.rf
  have hC0 := hC.q hK0 hq
  have eq : (0 ≤ iI n ∧ iI n ≤ iI (xt X).length) ↔ (0 ≤ n ∧ n ≤ (xt X).length) := by rw [iI_0le hn32, iI_le ⟨hn32, by omega⟩]
  have e112 : σ.1 112 = (sI σ 111 (upd (σ.1 111) 0 (iI 0))).1 112 := (sI_ne _ _ _ _ (by decide)).symm
  refine ct_X12_end hR hC.1 (fun h => ?_) (fun h => ?_)
  · rw [eq] at h; unfold endX endA at hK; rw [if_neg h, if_neg h] at hK; exact hK _ hq.1 hC0
  · rw [eq] at h; unfold endX endA at hK; rw [if_pos h, if_pos h] at hK
    rw [e112]
    obtain ⟨h1, h2⟩ := MI_t (t := (xt X).take n.toNat) (r := (sI σ 111 (upd (σ.1 111) 0 (iI 0))).1 112) (q := iI n) hC0 (show TM (uset (sI σ 111 (upd (σ.1 111) 0 (iI 0))) ((sI σ 111 (upd (σ.1 111) 0 (iI 0))).1 112) (iI n)) ((xt X).take n.toNat) from ⟨by unfold uset; rw [sI_same, upd_same, end_len h], fun i b hb => by
      unfold uset; rw [sI_ne _ _ _ _ (by decide), sI_same]
      rw [List.getElem?_take] at hb
      split at hb
      · exact hC0.1.2 i b hb
      · cases hb⟩)
    exact hK _ (hq.1.tr h2) h1
/-! hidden pipes -/
def wayZ (n j : Int) : Int := if j < 1 ∨ n - 1 < 1 then 0 else 1000 + 100 * ((j - 1) / 9 / (n - 1)) + 10 * (if (j - 1) / 9 % (n - 1) < (j - 1) / 9 / (n - 1) then (j - 1) / 9 % (n - 1) else (j - 1) / 9 % (n - 1) + 1) + (j - 1) % 9 + 1
def isW (n w : Nat) : Bool := decide (w = 0 ∨ (1000 < w ∧ w / 100 % 10 ≠ w / 10 % 10 ∧ w / 100 % 10 < n ∧ w / 10 % 10 < n ∧ 0 < w % 10))
def nWy (n : Nat) : Nat := 1 + n * (n - 1) * 9
def wyN (n j : Nat) : Nat := (wayZ n j).toNat
def wys (n : Nat) : List Nat := (List.range (nWy n)).map (wyN n)
theorem wyN_ok : ∀ n : Nat, n < 8 → ∀ j : Nat, j < nWy n → 0 ≤ wayZ n j ∧ wayZ n j < 1700 := by decide +kernel
theorem wys_eq : ∀ n, n < 8 → wys n = (List.range 1700).filter (isW n) := by decide +kernel
theorem nWy_le : ∀ n, n < 8 → nWy n ≤ 379 := by decide +kernel
def gnF (w p : Nat) : Int := if w = 0 then 0 else if (w : Int) / 100 % 10 = p then -((w : Int) % 10) else if (w : Int) / 10 % 10 = p then (w : Int) % 10 else 0
theorem gnF_bd (w p : Nat) : -9 ≤ gnF w p ∧ gnF w p ≤ 9 := by unfold gnF; split <;> (try split) <;> (try split) <;> omega
def fitF (ms : List (Nat × Int)) (w : Nat) : Bool := ms.all (fun m => gnF w m.1 == m.2)
def fwL (X : XS) : List Nat := (wys (nP (xs X))).filter (fitF (xm X))
theorem fwL_m {X : XS} (h : XK X) : fwL X = (List.range 1700).filter (fun w => isW (nP (xs X)) w && fitF (xm X) w) := by
  unfold fwL
  rw [wys_eq _ (by have := h.s.1; omega), List.filter_filter]
  congr 1
  funext w
  exact Bool.and_comm _ _
def gtF (L : List Nat) (i : Nat) : Int := match L[i]? with
  | some w => (w : Int)
  | none => -1
def secA (X : XS) (i : Int) : Int := if 0 < nP (xs X) ∧ -1 ≤ i then (if i = -1 then ((fwL X).length : Int) else gtF (fwL X) i.toNat) else -1
theorem gt_y {w i : Nat} {R : List Nat} {P : Nat → Bool} (h : P w = true) : gtF ((w :: R).filter P) (i + 1) = gtF (R.filter P) i := by
  unfold gtF; rw [List.filter_cons_of_pos h]; rfl
theorem gt_0 {w : Nat} {R : List Nat} {P : Nat → Bool} (h : P w = true) : gtF ((w :: R).filter P) 0 = w := by
  unfold gtF; rw [List.filter_cons_of_pos h]; rfl
theorem gt_n {w i : Nat} {R : List Nat} {P : Nat → Bool} (h : ¬ P w = true) : gtF ((w :: R).filter P) i = gtF (R.filter P) i := by
  rw [List.filter_cons_of_neg h]
theorem gt_e {i : Nat} {P : Nat → Bool} : gtF ([].filter P) i = -1 := rfl
theorem map_at {n j : Nat} (h : j < nWy n) : (wys n)[j]? = some (wyN n j) := by
  unfold wys
  rw [List.getElem?_map, List.getElem?_range h]
  rfl
theorem wys_len (n : Nat) : (wys n).length = nWy n := by unfold wys; rw [List.length_map, List.length_range]
theorem ct_X5_gainBy {l : Launch} {D : va_G} {cA ad : Nat → Nat} {d : Nat} {σ : AS} {K : Option Value → AS → Prop} {w p : Nat} (hw : w < 1700) (hp : p < 7) (hK : K (some (.int (iI (gnF w p)))) σ) : Call l D cA ad d mX5_gainBy [.int (iI (w : Nat)), .int (iI (p : Nat))] σ K := by
  refine call_go (by decide) (Nat.le_of_ble_eq_true rfl) (show Go l D cA ad d mX5_gainBy 0 [.int (iI (w : Nat)), .int (iI (p : Nat))] [] σ K from ?_)
  refine go_iload_n dX5_gainBy_0 rfl ?_
  refine go_if_ne (tgt := 6) dX5_gainBy_1 (by decide) (fun h1 => ?_) (fun h1 => ?_)
  · rw [iI_eq0 (by omega)] at h1
    refine go_iload_n dX5_gainBy_6 rfl ?_
    refine go_bipush (v := iI 100) dX5_gainBy_7 (by decide) ?_
    refine go_idiv dX5_gainBy_9 (by decide) ?_
    rw [iI_div (by omega) (by decide)]
    refine go_bipush (v := iI 10) dX5_gainBy_10 (by decide) ?_
    refine go_irem dX5_gainBy_12 (by decide) ?_
    rw [iI_rem (by omega) (by decide)]
    refine go_iload_n dX5_gainBy_13 rfl ?_
    refine go_icmp_ne (tgt := 23) dX5_gainBy_14 (by decide) (fun h14 => ?_) (fun h14 => ?_)
    · rw [iI_eq (by omega)] at h14
      refine go_iload_n dX5_gainBy_23 rfl ?_
      refine go_bipush (v := iI 10) dX5_gainBy_24 (by decide) ?_
      refine go_idiv dX5_gainBy_26 (by decide) ?_
      rw [iI_div (by omega) (by decide)]
      refine go_bipush (v := iI 10) dX5_gainBy_27 (by decide) ?_
      refine go_irem dX5_gainBy_29 (by decide) ?_
      rw [iI_rem (by omega) (by decide)]
      refine go_iload_n dX5_gainBy_30 rfl ?_
      refine go_icmp_ne (tgt := 41) dX5_gainBy_31 (by decide) (fun h31 => ?_) (fun h31 => ?_)
      · rw [iI_eq (by omega)] at h31
        refine go_iconst (v := iI 0) dX5_gainBy_41 (by decide) ?_
        refine go_iret rfl rfl dX5_gainBy_42 ?_
        have e : gnF w p = 0 := by unfold gnF; rw [if_neg (by omega), if_neg h14, if_neg h31]
        rw [e] at hK
        exact hK
      · rw [iI_eq (by omega)] at h31
        refine go_iload_n dX5_gainBy_34 rfl ?_
        refine go_bipush (v := iI 10) dX5_gainBy_35 (by decide) ?_
        refine go_irem dX5_gainBy_37 (by decide) ?_
        rw [iI_rem (by omega) (by decide)]
        refine go_goto (tgt := 42) dX5_gainBy_38 (by decide) ?_
        refine go_iret rfl rfl dX5_gainBy_42 ?_
        have e : gnF w p = (w : Int) % 10 := by unfold gnF; rw [if_neg (by omega), if_neg h14, if_pos h31]
        rw [e] at hK
        exact hK
    · rw [iI_eq (by omega)] at h14
      refine go_iload_n dX5_gainBy_17 rfl ?_
      refine go_bipush (v := iI 10) dX5_gainBy_18 (by decide) ?_
      refine go_irem dX5_gainBy_20 (by decide) ?_
      rw [iI_rem (by omega) (by decide)]
      refine go_ineg dX5_gainBy_21 ?_
      rw [iI_neg]
      refine go_iret rfl rfl dX5_gainBy_22 ?_
      have e : gnF w p = -((w : Int) % 10) := by unfold gnF; rw [if_neg (by omega), if_pos h14]
      rw [e] at hK
      exact hK
  · rw [iI_eq0 (by omega)] at h1
    refine go_iconst (v := iI 0) dX5_gainBy_4 (by decide) ?_
    refine go_iret rfl rfl dX5_gainBy_5 ?_
    have e : gnF w p = 0 := by unfold gnF; rw [if_pos (by omega)]
    rw [e] at hK
    exact hK

theorem ct_X5_ways {l : Launch} {D : va_G} {cA ad : Nat → Nat} {d : Nat} {σ : AS} {K : Option Value → AS → Prop} {X : XS} (hR : RO σ) (hK0 : XK X) (hC : CI σ X) (hn : 0 < nP (xs X)) (hK : K (some (.int (iI (nWy (nP (xs X)) : Nat)))) σ) : Call l D cA ad d mX5_ways [.ref 101] σ K := by
  refine call_go (by decide) (Nat.le_of_ble_eq_true rfl) (show Go l D cA ad d mX5_ways 0 [.ref 101] [] σ K from ?_)
  refine go_iconst (v := iI 1) dX5_ways_0 (by decide) ?_
  refine go_aload_n dX5_ways_1 rfl ?_
  refine go_getR fX5_21 dX5_ways_2 rfl (hR _ _ _ rfl) ?_
  refine go_getI fX5_29 dX5_ways_5 rfl ?_
  rw [hC.2.1.1]
  refine go_aload_n dX5_ways_8 rfl ?_
  refine go_getR fX5_21 dX5_ways_9 rfl (hR _ _ _ rfl) ?_
  refine go_getI fX5_29 dX5_ways_12 rfl ?_
  rw [hC.2.1.1]
  refine go_iconst (v := iI 1) dX5_ways_15 (by decide) ?_
  refine go_isub dX5_ways_16 ?_
  rw [iI_sub]
  refine go_imul dX5_ways_17 ?_
  rw [iI_mul]
  refine go_bipush (v := iI 9) dX5_ways_18 (by decide) ?_
  refine go_imul dX5_ways_20 ?_
  rw [iI_mul]
  refine go_iadd dX5_ways_21 ?_
  rw [iI_add]
  refine go_iret rfl rfl dX5_ways_22 ?_
  rw [show 1 + (nP (xs X) : Int) * ((nP (xs X) : Int) - 1) * 9 = ((nWy (nP (xs X)) : Nat) : Int) from ?_]
  · exact hK
  have hP := hK0.s.1
  generalize nP (xs X) = m at hP hn ⊢
  rcases (show m = 1 ∨ m = 2 ∨ m = 3 ∨ m = 4 ∨ m = 5 ∨ m = 6 ∨ m = 7 by omega) with rfl | rfl | rfl | rfl | rfl | rfl | rfl <;> rfl

theorem ct_X5_wayAt {l : Launch} {D : va_G} {cA ad : Nat → Nat} {d : Nat} {σ : AS} {K : Option Value → AS → Prop} {X : XS} {j : Nat} (hR : RO σ) (hK0 : XK X) (hC : CI σ X) (hj : j < 1000) (hK : K (some (.int (iI (wayZ (nP (xs X)) j)))) σ) : Call l D cA ad d mX5_wayAt [.ref 101, .int (iI (j : Nat))] σ K := by
  have hP7 := hK0.s.1
  refine call_go (by decide) (Nat.le_of_ble_eq_true rfl) (show Go l D cA ad d mX5_wayAt 0 [.ref 101, .int (iI (j : Nat)), .null, .null, .null, .null] [] σ K from ?_)
  refine go_aload_n dX5_wayAt_0 rfl ?_
  refine go_getR fX5_21 dX5_wayAt_1 rfl (hR _ _ _ rfl) ?_
  refine go_getI fX5_29 dX5_wayAt_4 rfl ?_
  rw [hC.2.1.1]
  refine go_iconst (v := iI 1) dX5_wayAt_7 (by decide) ?_
  refine go_isub dX5_wayAt_8 ?_
  rw [iI_sub]
  refine go_istore_n dX5_wayAt_9 (Nat.le_of_ble_eq_true rfl) rfl ?_
  refine go_iload_n dX5_wayAt_10 rfl ?_
  refine go_iconst (v := iI 1) dX5_wayAt_11 (by decide) ?_
  refine go_icmp_lt (tgt := 20) dX5_wayAt_12 (by decide) (fun h12 => ?_) (fun h12 => ?_)
  · rw [iI_lt (by omega)] at h12
    refine go_iconst (v := iI 0) dX5_wayAt_20 (by decide) ?_
    refine go_iret rfl rfl dX5_wayAt_21 ?_
    have e : wayZ (nP (xs X)) j = 0 := by unfold wayZ; rw [if_pos (by omega)]
    rw [e] at hK
    exact hK
  · rw [iI_lt (by omega)] at h12
    refine go_iload_n dX5_wayAt_15 rfl ?_
    refine go_iconst (v := iI 1) dX5_wayAt_16 (by decide) ?_
    refine go_icmp_ge (tgt := 22) dX5_wayAt_17 (by decide) (fun h17 => ?_) (fun h17 => ?_)
    · rw [iI_le (by omega)] at h17
      refine go_iload_n dX5_wayAt_22 rfl ?_
      refine go_iconst (v := iI 1) dX5_wayAt_23 (by decide) ?_
      refine go_isub dX5_wayAt_24 ?_
      rw [iI_sub]
      refine go_bipush (v := iI 9) dX5_wayAt_25 (by decide) ?_
      refine go_idiv dX5_wayAt_27 (by decide) ?_
      rw [iI_div (by omega) (by decide)]
      refine go_istore_n dX5_wayAt_28 (Nat.le_of_ble_eq_true rfl) rfl ?_
      refine go_iload_n dX5_wayAt_29 rfl ?_
      refine go_iload_n dX5_wayAt_30 rfl ?_
      refine go_idiv dX5_wayAt_31 (by rw [iI_eq0 (by omega)]; omega) ?_
      rw [iI_div (by omega) (by omega)]
      refine go_istore dX5_wayAt_32 (Nat.le_of_ble_eq_true rfl) rfl ?_
      refine go_iload_n dX5_wayAt_34 rfl ?_
      refine go_iload_n dX5_wayAt_35 rfl ?_
      refine go_irem dX5_wayAt_36 (by rw [iI_eq0 (by omega)]; omega) ?_
      rw [iI_rem (by omega) (by omega)]
      have g1 := Int.ediv_nonneg (show 0 ≤ ((j : Int) - 1) / 9 by omega) (show 0 ≤ ((nP (xs X) : Int) - 1) by omega)
      have g2 : ((j : Int) - 1) / 9 / ((nP (xs X) : Int) - 1) ≤ ((j : Int) - 1) / 9 := Int.ediv_le_self _ (by omega)
      have g3 := Int.emod_nonneg (((j : Int) - 1) / 9) (show ((nP (xs X) : Int) - 1) ≠ 0 by omega)
      have g4 := Int.emod_lt_of_pos (((j : Int) - 1) / 9) (show 0 < ((nP (xs X) : Int) - 1) by omega)
      generalize hA : ((j : Int) - 1) / 9 / ((nP (xs X) : Int) - 1) = A at g1 g2
      generalize hB : ((j : Int) - 1) / 9 % ((nP (xs X) : Int) - 1) = B at g3 g4
      refine go_istore dX5_wayAt_37 (Nat.le_of_ble_eq_true rfl) rfl ?_
      refine go_iload dX5_wayAt_39 rfl ?_
      refine go_iload dX5_wayAt_41 rfl ?_
      refine go_icmp_lt (tgt := 49) dX5_wayAt_43 (by decide) (fun h43 => ?_) (fun h43 => ?_)
      · rw [iI_lt (by omega)] at h43
        refine go_sipush (v := iI 1000) dX5_wayAt_49 (by decide) ?_
        refine go_bipush (v := iI 100) dX5_wayAt_52 (by decide) ?_
        refine go_iload dX5_wayAt_54 rfl ?_
        refine go_imul dX5_wayAt_56 ?_
        rw [iI_mul]
        refine go_iadd dX5_wayAt_57 ?_
        rw [iI_add]
        refine go_bipush (v := iI 10) dX5_wayAt_58 (by decide) ?_
        refine go_iload dX5_wayAt_60 rfl ?_
        refine go_imul dX5_wayAt_62 ?_
        rw [iI_mul]
        refine go_iadd dX5_wayAt_63 ?_
        rw [iI_add]
        refine go_iload_n dX5_wayAt_64 rfl ?_
        refine go_iconst (v := iI 1) dX5_wayAt_65 (by decide) ?_
        refine go_isub dX5_wayAt_66 ?_
        rw [iI_sub]
        refine go_bipush (v := iI 9) dX5_wayAt_67 (by decide) ?_
        refine go_irem dX5_wayAt_69 (by decide) ?_
        rw [iI_rem (by omega) (by decide)]
        refine go_iadd dX5_wayAt_70 ?_
        rw [iI_add]
        refine go_iconst (v := iI 1) dX5_wayAt_71 (by decide) ?_
        refine go_iadd dX5_wayAt_72 ?_
        rw [iI_add]
        refine go_iret rfl rfl dX5_wayAt_73 ?_
        have e : wayZ (nP (xs X)) j = 1000 + 100 * A + 10 * B + ((j : Int) - 1) % 9 + 1 := by unfold wayZ; rw [if_neg (by omega), hA, hB, if_pos (by omega)]
        rw [e] at hK
        exact hK
      · rw [iI_lt (by omega)] at h43
        refine go_iincI dX5_wayAt_46 rfl (Nat.le_of_ble_eq_true rfl) rfl ?_
        simp only [List.set]
        rw [iI_add]
        refine go_sipush (v := iI 1000) dX5_wayAt_49 (by decide) ?_
        refine go_bipush (v := iI 100) dX5_wayAt_52 (by decide) ?_
        refine go_iload dX5_wayAt_54 rfl ?_
        refine go_imul dX5_wayAt_56 ?_
        rw [iI_mul]
        refine go_iadd dX5_wayAt_57 ?_
        rw [iI_add]
        refine go_bipush (v := iI 10) dX5_wayAt_58 (by decide) ?_
        refine go_iload dX5_wayAt_60 rfl ?_
        refine go_imul dX5_wayAt_62 ?_
        rw [iI_mul]
        refine go_iadd dX5_wayAt_63 ?_
        rw [iI_add]
        refine go_iload_n dX5_wayAt_64 rfl ?_
        refine go_iconst (v := iI 1) dX5_wayAt_65 (by decide) ?_
        refine go_isub dX5_wayAt_66 ?_
        rw [iI_sub]
        refine go_bipush (v := iI 9) dX5_wayAt_67 (by decide) ?_
        refine go_irem dX5_wayAt_69 (by decide) ?_
        rw [iI_rem (by omega) (by decide)]
        refine go_iadd dX5_wayAt_70 ?_
        rw [iI_add]
        refine go_iconst (v := iI 1) dX5_wayAt_71 (by decide) ?_
        refine go_iadd dX5_wayAt_72 ?_
        rw [iI_add]
        refine go_iret rfl rfl dX5_wayAt_73 ?_
        have e : wayZ (nP (xs X)) j = 1000 + 100 * A + 10 * (B + 1) + ((j : Int) - 1) % 9 + 1 := by unfold wayZ; rw [if_neg (by omega), hA, hB, if_neg (by omega)]
        rw [e] at hK
        exact hK
    · rw [iI_le (by omega)] at h17
      refine go_iconst (v := iI 0) dX5_wayAt_20 (by decide) ?_
      refine go_iret rfl rfl dX5_wayAt_21 ?_
      have e : wayZ (nP (xs X)) j = 0 := by unfold wayZ; rw [if_pos (by omega)]
      rw [e] at hK
      exact hK

theorem ft2 {l : Launch} {D : va_G} {cA ad : Nat → Nat} {d : Nat} {σ : AS} {K : Option Value → AS → Prop} {ms : List (Nat × Int)} {w : Nat} {b : Bool} (hR : RO σ) (hM : MsC σ ms) (hl : ms.length ≤ 10) (hmk : ∀ m, m ∈ ms → m.1 < 7 ∧ -9 ≤ m.2 ∧ m.2 ≤ 9) (hw : w < 1700) (hK1 : b = true → K (some (.int (iI 1))) σ) (hK0 : b = false → K (some (.int (iI 0))) σ) : ∀ (R : List (Nat × Int)) (i : Nat), ms.drop i = R → i ≤ ms.length → fitF R w = b → Go l D cA ad (d + 1) mX5_fits 2 [.ref 101, .int (iI (w : Nat)), .int (iI i)] [] σ K := by
  intro R
  induction R with
  | nil =>
    intro i hR2 hi hres
    have hil := drop_nil hR2 hi
    refine go_iload_n dX5_fits_2 rfl ?_
    refine go_aload_n dX5_fits_3 rfl ?_
    refine go_getI fX5_25 dX5_fits_4 rfl ?_
    rw [hM.1]
    refine go_icmp_ge (tgt := 37) dX5_fits_7 (by decide) (fun h7 => ?_) (fun h7 => ?_)
    · refine go_iconst (v := iI 1) dX5_fits_37 (by decide) ?_
      refine go_iret rfl rfl dX5_fits_38 ?_
      exact hK1 hres.symm
    · exfalso
      rw [iI_le (by omega)] at h7
      omega
  | cons m R ih =>
    intro i hR2 hi hres
    have hx := drop_cons hR2
    have hil := hx.2.2
    have hmm := hmk m (List.mem_of_getElem? hx.1)
    have hgb := gnF_bd w m.1
    refine go_iload_n dX5_fits_2 rfl ?_
    refine go_aload_n dX5_fits_3 rfl ?_
    refine go_getI fX5_25 dX5_fits_4 rfl ?_
    rw [hM.1]
    refine go_icmp_ge (tgt := 37) dX5_fits_7 (by decide) (fun h7 => ?_) (fun h7 => ?_)
    · exfalso
      rw [iI_le (by omega)] at h7
      omega
    · refine go_iload_n dX5_fits_10 rfl ?_
      refine go_aload_n dX5_fits_11 rfl ?_
      refine go_getR fX5_9 dX5_fits_12 rfl (hR _ _ _ rfl) ?_
      refine go_iload_n dX5_fits_15 rfl ?_
      refine go_iald dX5_fits_16 rfl (vp_iI (by omega)) ?_
      rw [cl_n _ (by omega), (hM.2 i m hx.1).1]
      refine go_callS (as := [_, _]) wX5_34 dX5_fits_17 rfl rfl (Nat.le_of_ble_eq_true rfl) (ct_X5_gainBy hw (by omega) ?_)
      refine go_aload_n dX5_fits_20 rfl ?_
      refine go_getR fX5_15 dX5_fits_21 rfl (hR _ _ _ rfl) ?_
      refine go_iload_n dX5_fits_24 rfl ?_
      refine go_iald dX5_fits_25 rfl (vp_iI (by omega)) ?_
      rw [cl_n _ (by omega), (hM.2 i m hx.1).2]
      refine go_icmp_eq (tgt := 31) dX5_fits_26 (by decide) (fun h26 => ?_) (fun h26 => ?_)
      · rw [iI_eq (by omega)] at h26
        refine go_iincI dX5_fits_31 rfl (Nat.le_of_ble_eq_true rfl) rfl ?_
        refine go_goto (tgt := 2) dX5_fits_34 (by decide) ?_
        simp only [List.set, iI_add]
        refine ih (i + 1) hx.2.1 (by omega) ?_
        rw [← hres]
        show _ = (gnF w m.1 == m.2 && fitF R w)
        rw [h26, beq_self_eq_true, Bool.true_and]
      · rw [iI_eq (by omega)] at h26
        refine go_iconst (v := iI 0) dX5_fits_29 (by decide) ?_
        refine go_iret rfl rfl dX5_fits_30 ?_
        have e : fitF (m :: R) w = false := by show (gnF w m.1 == m.2 && _) = false; rw [beq_eq_false_iff_ne.mpr h26, Bool.false_and]
        rw [e] at hres
        exact hK0 hres.symm
theorem ct_X5_fits {l : Launch} {D : va_G} {cA ad : Nat → Nat} {d : Nat} {σ : AS} {K : Option Value → AS → Prop} {ms : List (Nat × Int)} {w : Nat} (hR : RO σ) (hM : MsC σ ms) (hl : ms.length ≤ 10) (hmk : ∀ m, m ∈ ms → m.1 < 7 ∧ -9 ≤ m.2 ∧ m.2 ≤ 9) (hw : w < 1700) (hK1 : fitF ms w = true → K (some (.int (iI 1))) σ) (hK2 : fitF ms w = false → K (some (.int (iI 0))) σ) : Call l D cA ad (d + 1) mX5_fits [.ref 101, .int (iI (w : Nat))] σ K := by
  refine call_go (by decide) (Nat.le_of_ble_eq_true rfl) (show Go l D cA ad (d + 1) mX5_fits 0 [.ref 101, .int (iI (w : Nat)), .null] [] σ K from ?_)
  refine go_iconst (v := iI 0) dX5_fits_0 (by decide) ?_
  refine go_istore_n dX5_fits_1 (Nat.le_of_ble_eq_true rfl) rfl ?_
  simp only [List.set]
  exact ft2 hR hM hl hmk hw hK1 hK2 ms 0 rfl (Nat.zero_le _) rfl

theorem ms7 {X : XS} (h : XK X) : ∀ m, m ∈ xm X → m.1 < 7 ∧ -9 ≤ m.2 ∧ m.2 ≤ 9 := fun m hm => by
  have := h.m.2 m hm
  have := h.s.1
  omega
theorem ct_wyN {l : Launch} {D : va_G} {cA ad : Nat → Nat} {d : Nat} {σ : AS} {K : Option Value → AS → Prop} {X : XS} {j : Nat} (hR : RO σ) (hK0 : XK X) (hC : CI σ X) (hj : j < nWy (nP (xs X))) (hK : K (some (.int (iI (wyN (nP (xs X)) j : Nat)))) σ) : Call l D cA ad d mX5_wayAt [.ref 101, .int (iI (j : Nat))] σ K := by
  have hP7 := hK0.s.1
  have h1 := nWy_le (nP (xs X)) (by omega)
  have h2 := wyN_ok (nP (xs X)) (by omega) j hj
  refine ct_X5_wayAt hR hK0 hC (by omega) ?_
  have e : wayZ (nP (xs X)) j = ((wyN (nP (xs X)) j : Nat) : Int) := by unfold wyN; omega
  rw [e]
  exact hK
theorem ct_fitX {l : Launch} {D : va_G} {cA ad : Nat → Nat} {d : Nat} {σ : AS} {K : Option Value → AS → Prop} {X : XS} {w : Nat} (hR : RO σ) (hK0 : XK X) (hC : CI σ X) (hw : w < 1700) (hK1 : fitF (xm X) w = true → K (some (.int (iI 1))) σ) (hK2 : fitF (xm X) w = false → K (some (.int (iI 0))) σ) : Call l D cA ad (d + 1) mX5_fits [.ref 101, .int (iI (w : Nat))] σ K := ct_X5_fits hR hC.2.2.2.2.2.2.1 hK0.m.1 (ms7 hK0) hw hK1 hK2
theorem wyN_lt {X : XS} (hK0 : XK X) {j : Nat} (hj : j < nWy (nP (xs X))) : wyN (nP (xs X)) j < 1700 := by
  have hP7 := hK0.s.1
  have h1 := nWy_le (nP (xs X)) (by omega)
  have h2 := wyN_ok (nP (xs X)) (by omega) j hj
  unfold wyN
  omega
theorem wys_cons {n i w : Nat} {R : List Nat} (h : (wys n).drop i = w :: R) : wyN n i = w ∧ (wys n).drop (i + 1) = R ∧ i < nWy n := by
  have hx := drop_cons h
  have hi := hx.2.2
  rw [wys_len] at hi
  have := map_at hi
  rw [hx.1] at this
  exact ⟨(Option.some.inj this).symm, hx.2.1, hi⟩
theorem wys_nil {n i : Nat} (h : (wys n).drop i = []) (hi : i ≤ nWy n) : i = nWy n := by
  have := drop_nil h (by rw [wys_len]; exact hi)
  rwa [wys_len] at this
theorem wt4 {l : Launch} {D : va_G} {cA ad : Nat → Nat} {d : Nat} {σ : AS} {K : Option Value → AS → Prop} {X : XS} {N : Nat} (hR : RO σ) (hK0 : XK X) (hC : CI σ X) (hn : 0 < nP (xs X)) (hK : K (some (.int (iI (N : Nat)))) σ) : ∀ (R : List Nat) (i c : Nat), (wys (nP (xs X))).drop i = R → i ≤ nWy (nP (xs X)) → c + (R.filter (fitF (xm X))).length = N → Go l D cA ad (d + 2) mX5_waysThatFit 4 [.ref 101, .int (iI (c : Nat)), .int (iI i)] [] σ K := by
  have hP7 := hK0.s.1
  have hnw := nWy_le (nP (xs X)) (by omega)
  intro R
  induction R with
  | nil =>
    intro i c hR2 hi hres
    have hil := wys_nil hR2 hi
    refine go_iload_n dX5_waysThatFit_4 rfl ?_
    refine go_aload_n dX5_waysThatFit_5 rfl ?_
    refine go_callV (as := []) wX5_38 dX5_waysThatFit_6 rfl rfl rfl rfl (Nat.le_of_ble_eq_true rfl) (ct_X5_ways hR hK0 hC hn ?_)
    refine go_icmp_ge (tgt := 33) dX5_waysThatFit_9 (by decide) (fun h9 => ?_) (fun h9 => ?_)
    · refine go_iload_n dX5_waysThatFit_33 rfl ?_
      refine go_iret rfl rfl dX5_waysThatFit_34 ?_
      have e : c = N := hres
      rw [e]
      exact hK
    · exfalso
      rw [iI_le (by omega)] at h9
      omega
  | cons x R ih =>
    intro i c hR2 hi hres
    have hx := wys_cons hR2
    have hil := hx.2.2
    have hwl : x < 1700 := by rw [← hx.1]; exact wyN_lt hK0 hx.2.2
    refine go_iload_n dX5_waysThatFit_4 rfl ?_
    refine go_aload_n dX5_waysThatFit_5 rfl ?_
    refine go_callV (as := []) wX5_38 dX5_waysThatFit_6 rfl rfl rfl rfl (Nat.le_of_ble_eq_true rfl) (ct_X5_ways hR hK0 hC hn ?_)
    refine go_icmp_ge (tgt := 33) dX5_waysThatFit_9 (by decide) (fun h9 => ?_) (fun h9 => ?_)
    · exfalso
      rw [iI_le (by omega)] at h9
      omega
    · refine go_aload_n dX5_waysThatFit_12 rfl ?_
      refine go_aload_n dX5_waysThatFit_13 rfl ?_
      refine go_iload_n dX5_waysThatFit_14 rfl ?_
      refine go_callV (as := [_]) wX5_42 dX5_waysThatFit_15 rfl rfl rfl rfl (Nat.le_of_ble_eq_true rfl) (ct_wyN hR hK0 hC hx.2.2 ?_)
      rw [hx.1]
      refine go_callV (as := [_]) wX5_46 dX5_waysThatFit_18 rfl rfl rfl rfl (Nat.le_of_ble_eq_true rfl) (ct_fitX hR hK0 hC hwl (fun hf => ?_) (fun hf => ?_))
      · refine go_if_eq (tgt := 27) dX5_waysThatFit_21 (by decide) (fun h21 => ?_) (fun h21 => ?_)
        · exact absurd h21 (by decide)
        · refine go_iincI dX5_waysThatFit_24 rfl (Nat.le_of_ble_eq_true rfl) rfl ?_
          refine go_iincI dX5_waysThatFit_27 rfl (Nat.le_of_ble_eq_true rfl) rfl ?_
          refine go_goto (tgt := 4) dX5_waysThatFit_30 (by decide) ?_
          simp only [List.set, iI_add]
          exact ih (i + 1) (c + 1) hx.2.1 (by omega) (by rw [List.filter_cons_of_pos hf, List.length_cons] at hres; omega)
      · refine go_if_eq (tgt := 27) dX5_waysThatFit_21 (by decide) (fun h21 => ?_) (fun h21 => ?_)
        · refine go_iincI dX5_waysThatFit_27 rfl (Nat.le_of_ble_eq_true rfl) rfl ?_
          refine go_goto (tgt := 4) dX5_waysThatFit_30 (by decide) ?_
          simp only [List.set, iI_add]
          exact ih (i + 1) c hx.2.1 (by omega) (by rw [List.filter_cons_of_neg (by rw [hf]; decide)] at hres; exact hres)
        · exact absurd h21 (by decide)
theorem ct_X5_waysThatFit {l : Launch} {D : va_G} {cA ad : Nat → Nat} {d : Nat} {σ : AS} {K : Option Value → AS → Prop} {X : XS} (hR : RO σ) (hK0 : XK X) (hC : CI σ X) (hn : 0 < nP (xs X)) (hK : K (some (.int (iI ((fwL X).length : Nat)))) σ) : Call l D cA ad (d + 2) mX5_waysThatFit [.ref 101] σ K := by
  refine call_go (by decide) (Nat.le_of_ble_eq_true rfl) (show Go l D cA ad (d + 2) mX5_waysThatFit 0 [.ref 101, .null, .null] [] σ K from ?_)
  refine go_iconst (v := iI 0) dX5_waysThatFit_0 (by decide) ?_
  refine go_istore_n dX5_waysThatFit_1 (Nat.le_of_ble_eq_true rfl) rfl ?_
  refine go_iconst (v := iI 0) dX5_waysThatFit_2 (by decide) ?_
  refine go_istore_n dX5_waysThatFit_3 (Nat.le_of_ble_eq_true rfl) rfl ?_
  simp only [List.set]
  exact wt4 hR hK0 hC hn hK (wys (nP (xs X))) 0 0 rfl (Nat.zero_le _) (Nat.zero_add _)

theorem wf4 {l : Launch} {D : va_G} {cA ad : Nat → Nat} {d : Nat} {σ : AS} {K : Option Value → AS → Prop} {X : XS} {N : Int} {v1 : Int32} (hR : RO σ) (hK0 : XK X) (hC : CI σ X) (hn : 0 < nP (xs X)) (hK : K (some (.int (iI N))) σ) : ∀ (R : List Nat) (i a : Nat) (v4 : Value), (wys (nP (xs X))).drop i = R → i ≤ nWy (nP (xs X)) → gtF (R.filter (fitF (xm X))) a = N → a < 2147483648 → Go l D cA ad (d + 2) mX5_wayThatFits 4 [.ref 101, .int v1, .int (iI (a : Nat)), .int (iI i), v4] [] σ K := by
  have hP7 := hK0.s.1
  have hnw := nWy_le (nP (xs X)) (by omega)
  intro R
  induction R with
  | nil =>
    intro i a v4 hR2 hi hres ha
    have hil := wys_nil hR2 hi
    refine go_iload_n dX5_wayThatFits_4 rfl ?_
    refine go_aload_n dX5_wayThatFits_5 rfl ?_
    refine go_callV (as := []) wX5_38 dX5_wayThatFits_6 rfl rfl rfl rfl (Nat.le_of_ble_eq_true rfl) (ct_X5_ways hR hK0 hC hn ?_)
    refine go_icmp_ge (tgt := 47) dX5_wayThatFits_9 (by decide) (fun h9 => ?_) (fun h9 => ?_)
    · refine go_iconst (v := iI (-1)) dX5_wayThatFits_47 (by decide) ?_
      refine go_iret rfl rfl dX5_wayThatFits_48 ?_
      rw [gt_e] at hres
      rw [hres]
      exact hK
    · exfalso
      rw [iI_le (by omega)] at h9
      omega
  | cons x R ih =>
    intro i a v4 hR2 hi hres ha
    have hx := wys_cons hR2
    have hil := hx.2.2
    have hwl : x < 1700 := by rw [← hx.1]; exact wyN_lt hK0 hx.2.2
    refine go_iload_n dX5_wayThatFits_4 rfl ?_
    refine go_aload_n dX5_wayThatFits_5 rfl ?_
    refine go_callV (as := []) wX5_38 dX5_wayThatFits_6 rfl rfl rfl rfl (Nat.le_of_ble_eq_true rfl) (ct_X5_ways hR hK0 hC hn ?_)
    refine go_icmp_ge (tgt := 47) dX5_wayThatFits_9 (by decide) (fun h9 => ?_) (fun h9 => ?_)
    · exfalso
      rw [iI_le (by omega)] at h9
      omega
    · refine go_aload_n dX5_wayThatFits_12 rfl ?_
      refine go_iload_n dX5_wayThatFits_13 rfl ?_
      refine go_callV (as := [_]) wX5_42 dX5_wayThatFits_14 rfl rfl rfl rfl (Nat.le_of_ble_eq_true rfl) (ct_wyN hR hK0 hC hx.2.2 ?_)
      rw [hx.1]
      refine go_istore dX5_wayThatFits_17 (Nat.le_of_ble_eq_true rfl) rfl ?_
      refine go_aload_n dX5_wayThatFits_19 rfl ?_
      refine go_iload dX5_wayThatFits_20 rfl ?_
      refine go_callV (as := [_]) wX5_46 dX5_wayThatFits_22 rfl rfl rfl rfl (Nat.le_of_ble_eq_true rfl) (ct_fitX hR hK0 hC hwl (fun hf => ?_) (fun hf => ?_))
      · refine go_if_ne (tgt := 31) dX5_wayThatFits_25 (by decide) (fun h25 => ?_) (fun h25 => ?_)
        · refine go_iload_n dX5_wayThatFits_31 rfl ?_
          refine go_if_ne (tgt := 38) dX5_wayThatFits_32 (by decide) (fun h32 => ?_) (fun h32 => ?_)
          · rw [iI_eq0 (by omega)] at h32
            refine go_iincI dX5_wayThatFits_38 rfl (Nat.le_of_ble_eq_true rfl) rfl ?_
            refine go_iincI dX5_wayThatFits_41 rfl (Nat.le_of_ble_eq_true rfl) rfl ?_
            refine go_goto (tgt := 4) dX5_wayThatFits_44 (by decide) ?_
            obtain ⟨a, rfl⟩ : ∃ b, a = b + 1 := ⟨a - 1, by omega⟩
            simp only [List.set, iI_add]
            rw [show ((a + 1 : Nat) : Int) + -1 = a by omega]
            exact ih (i + 1) a _ hx.2.1 (by omega) (by rw [gt_y hf] at hres; exact hres) (by omega)
          · rw [iI_eq0 (by omega)] at h32
            refine go_iload dX5_wayThatFits_35 rfl ?_
            refine go_iret rfl rfl dX5_wayThatFits_37 ?_
            obtain rfl : a = 0 := by omega
            rw [gt_0 hf] at hres
            rw [hres]
            exact hK
        · exact absurd h25 (by decide)
      · refine go_if_ne (tgt := 31) dX5_wayThatFits_25 (by decide) (fun h25 => ?_) (fun h25 => ?_)
        · exact absurd h25 (by decide)
        · refine go_goto (tgt := 41) dX5_wayThatFits_28 (by decide) ?_
          refine go_iincI dX5_wayThatFits_41 rfl (Nat.le_of_ble_eq_true rfl) rfl ?_
          refine go_goto (tgt := 4) dX5_wayThatFits_44 (by decide) ?_
          simp only [List.set, iI_add]
          exact ih (i + 1) a _ hx.2.1 (by omega) (by rw [gt_n (by rw [hf]; decide)] at hres; exact hres) (by omega)
theorem ct_X5_wayThatFits {l : Launch} {D : va_G} {cA ad : Nat → Nat} {d : Nat} {σ : AS} {K : Option Value → AS → Prop} {X : XS} {a : Nat} (hR : RO σ) (hK0 : XK X) (hC : CI σ X) (hn : 0 < nP (xs X)) (ha : a < 2147483648) (hK : K (some (.int (iI (gtF (fwL X) a)))) σ) : Call l D cA ad (d + 2) mX5_wayThatFits [.ref 101, .int (iI (a : Nat))] σ K := by
  refine call_go (by decide) (Nat.le_of_ble_eq_true rfl) (show Go l D cA ad (d + 2) mX5_wayThatFits 0 [.ref 101, .int (iI (a : Nat)), .null, .null, .null] [] σ K from ?_)
  refine go_iload_n dX5_wayThatFits_0 rfl ?_
  refine go_istore_n dX5_wayThatFits_1 (Nat.le_of_ble_eq_true rfl) rfl ?_
  refine go_iconst (v := iI 0) dX5_wayThatFits_2 (by decide) ?_
  refine go_istore_n dX5_wayThatFits_3 (Nat.le_of_ble_eq_true rfl) rfl ?_
  simp only [List.set]
  exact wf4 hR hK0 hC hn hK (wys (nP (xs X))) 0 a _ rfl (Nat.zero_le _) rfl ha

theorem ct_X11_secret {l : Launch} {D : va_G} {cA ad : Nat → Nat} {d : Nat} {σ : AS} {K : Option Value → AS → Prop} {X : XS} {a : Int} (hR : RO σ) (hK0 : XK X) (hC : CI σ X) (ha32 : -2147483648 ≤ a ∧ a < 2147483648) (hK : ∀ τ, QF σ τ → K (some (.int (iI (secA X a)))) τ) : Call l D cA ad (d + 3) mX11_secret [.ref 0, .int (iI a)] σ K := by
  refine call_go (by decide) (Nat.le_of_ble_eq_true rfl) (show Go l D cA ad (d + 3) mX11_secret 0 [.ref 0, .int (iI a)] [] σ K from ?_)
  refine go_aload_n dX11_secret_0 rfl ?_
  refine go_getR fX11_19 dX11_secret_1 rfl (hR _ _ _ rfl) ?_
  refine go_callV (as := []) wX11_135 dX11_secret_4 rfl rfl rfl rfl (Nat.le_of_ble_eq_true rfl) (ct_told2 hC.2.1 hK0.s (fun hn => ?_) (fun hn => ?_))
  · refine go_if_eq (tgt := 15) dX11_secret_7 (by decide) (fun h7 => ?_) (fun h7 => ?_)
    · exact absurd h7 (by decide)
    · refine go_iload_n dX11_secret_10 rfl ?_
      refine go_iconst (v := iI (-1)) dX11_secret_11 (by decide) ?_
      refine go_icmp_ge (tgt := 17) dX11_secret_12 (by decide) (fun h12 => ?_) (fun h12 => ?_)
      · rw [iI_le (by omega)] at h12
        refine go_iload_n dX11_secret_17 rfl ?_
        refine go_iconst (v := iI (-1)) dX11_secret_18 (by decide) ?_
        refine go_icmp_ne (tgt := 32) dX11_secret_19 (by decide) (fun h19 => ?_) (fun h19 => ?_)
        · rw [iI_eq (by omega)] at h19
          obtain ⟨q, rfl⟩ : ∃ q : Nat, a = q := ⟨a.toNat, by omega⟩
          refine go_aload_n dX11_secret_32 rfl ?_
          refine go_getR fX11_85 dX11_secret_33 rfl (hR _ _ _ rfl) ?_
          refine go_iload_n dX11_secret_36 rfl ?_
          refine go_callV (as := [_]) wX11_297 dX11_secret_37 rfl rfl rfl rfl (Nat.le_of_ble_eq_true rfl) (ct_X5_wayThatFits (a := q) hR hK0 hC hn (by omega) ?_)
          refine go_iret rfl rfl dX11_secret_40 ?_
          have e : secA X q = gtF (fwL X) q := by unfold secA; rw [if_pos ⟨hn, by omega⟩, if_neg (by omega), Int.toNat_natCast]
          rw [e] at hK
          exact hK σ QF.rf
        · rw [iI_eq (by omega)] at h19
          refine go_aload_n dX11_secret_22 rfl ?_
          refine go_getR fX11_85 dX11_secret_23 rfl (hR _ _ _ rfl) ?_
          refine go_callV (as := []) wX11_294 dX11_secret_26 rfl rfl rfl rfl (Nat.le_of_ble_eq_true rfl) (ct_X5_waysThatFit hR hK0 hC hn ?_)
          refine go_goto (tgt := 40) dX11_secret_29 (by decide) ?_
          refine go_iret rfl rfl dX11_secret_40 ?_
          have e : secA X a = ((fwL X).length : Int) := by unfold secA; rw [if_pos ⟨hn, by omega⟩, if_pos h19]
          rw [e] at hK
          exact hK σ QF.rf
      · rw [iI_le (by omega)] at h12
        refine go_iconst (v := iI (-1)) dX11_secret_15 (by decide) ?_
        refine go_iret rfl rfl dX11_secret_16 ?_
        have e : secA X a = -1 := by unfold secA; rw [if_neg (by omega)]
        rw [e] at hK
        exact hK σ QF.rf
  · refine go_if_eq (tgt := 15) dX11_secret_7 (by decide) (fun h7 => ?_) (fun h7 => ?_)
    · refine go_iconst (v := iI (-1)) dX11_secret_15 (by decide) ?_
      refine go_iret rfl rfl dX11_secret_16 ?_
      have e : secA X a = -1 := by unfold secA; rw [if_neg (by omega)]
      rw [e] at hK
      exact hK σ QF.rf
    · exact absurd h7 (by decide)

