/-! the next pond that tells most -/
def lfS (c : Nat → Nat) (k : Nat) : Nat → Nat := fun j => if j = k then c j + 1 else c j
def gkF (w p : Nat) : Nat := (gnF w p + 9).toNat
theorem gkF_ok (w p : Nat) : gkF w p < 19 ∧ gnF w p + 9 = (gkF w p : Int) := by have := gnF_bd w p; unfold gkF; omega
def ctF (p : Nat) : List Nat → (Nat → Nat) → Nat → Nat
  | [], c => c
  | w :: L, c => ctF p L (lfS c (gkF w p))
def mxN (c : Nat → Nat) : Nat → Nat
  | 0 => 0
  | n + 1 => if mxN c n < c n then c n else mxN c n
def mostP (L : List Nat) (p : Nat) : Nat := mxN (ctF p L (fun _ => 0)) 19
theorem mxN_le (c : Nat → Nat) : ∀ n j, j < n → c j ≤ mxN c n
  | 0, j, h => absurd h (Nat.not_lt_zero _)
  | n + 1, j, h => by
    unfold mxN
    by_cases e : j = n
    · subst e; split <;> omega
    · have := mxN_le c n j (by omega)
      split <;> omega
theorem mxN_ub (c : Nat → Nat) (M : Nat) : ∀ n, (∀ j, j < n → c j ≤ M) → mxN c n ≤ M
  | 0, _ => Nat.zero_le _
  | n + 1, h => by
    unfold mxN
    have h1 := mxN_ub c M n (fun j hj => h j (by omega))
    have h2 := h n (by omega)
    split <;> omega
theorem mxN_s {c : Nat → Nat} {k : Nat} (hk : k < 19) : mxN (lfS c k) 19 = if mxN c 19 < c k + 1 then c k + 1 else mxN c 19 := by
  have e : lfS c k k = c k + 1 := if_pos rfl
  have h1 := mxN_le (lfS c k) 19 k hk
  rw [e] at h1
  have h2 : mxN c 19 ≤ mxN (lfS c k) 19 := mxN_ub c _ 19 (fun j hj => by
    have := mxN_le (lfS c k) 19 j hj
    have : c j ≤ lfS c k j := by unfold lfS; split <;> omega
    omega)
  have h3 : mxN (lfS c k) 19 ≤ if mxN c 19 < c k + 1 then c k + 1 else mxN c 19 := mxN_ub _ _ 19 (fun j hj => by
    have := mxN_le c 19 j hj
    unfold lfS
    split
    · subst_vars; split <;> omega
    · split <;> omega)
  split at h3 <;> split <;> omega
theorem ctF_ge (p : Nat) : ∀ (L : List Nat) (c : Nat → Nat) (j : Nat), c j ≤ ctF p L c j
  | [], c, j => Nat.le_refl _
  | w :: L, c, j => by
    have h1 := ctF_ge p L (lfS c (gkF w p)) j
    have h2 : c j ≤ lfS c (gkF w p) j := by unfold lfS; split <;> omega
    exact Nat.le_trans h2 h1
theorem ctF_le (p : Nat) : ∀ (L : List Nat) (c : Nat → Nat) (M : Nat), (∀ j, c j ≤ M) → ∀ j, ctF p L c j ≤ M + L.length
  | [], c, M, h, j => h j
  | w :: L, c, M, h, j => by
    have := ctF_le p L (lfS c (gkF w p)) (M + 1) (fun j => by have := h j; unfold lfS; split <;> omega) j
    rw [List.length_cons]
    show ctF p L (lfS c (gkF w p)) j ≤ _
    omega
theorem mostP_pos {L : List Nat} {p : Nat} (h : L ≠ []) : 0 < mostP L p := by
  cases L with
  | nil => exact absurd rfl h
  | cons w L =>
    have h1 := mxN_le (ctF p (w :: L) (fun _ => 0)) 19 (gkF w p) (gkF_ok w p).1
    have h2 := ctF_ge p L (lfS (fun _ => 0) (gkF w p)) (gkF w p)
    have h3 : lfS (fun _ => 0) (gkF w p) (gkF w p) = 1 := if_pos rfl
    rw [h3] at h2
    exact Nat.lt_of_lt_of_le h2 h1
theorem mostP_le {L : List Nat} {p : Nat} : mostP L p ≤ L.length := mxN_ub _ _ 19 (fun j _ => by have := ctF_le p L (fun _ => 0) 0 (fun _ => Nat.le_refl _) j; omega)
def nmS (B : Int) (g : Nat → Nat) : Nat → Int × Int
  | 0 => (-1, B)
  | p + 1 => if 0 < g p ∧ (g p : Int) < (nmS B g p).2 then ((p : Int), (g p : Int)) else nmS B g p
def mmS (g : Nat → Nat) : Nat → Int × Int
  | 0 => (-1, 0)
  | p + 1 => if (mmS g p).1 ≠ -1 ∧ (mmS g p).2 ≤ g p then mmS g p else ((p : Int), (g p : Int))
theorem nm_mm {B : Int} {g : Nat → Nat} (hb : ∀ p, (g p : Int) < B) (hp : ∀ p, 0 < g p) : ∀ n, n = 0 ∨ (nmS B g n = mmS g n ∧ (mmS g n).1 ≠ -1)
  | 0 => Or.inl rfl
  | n + 1 => by
    right
    have h1 := hp n
    have h2 := hb n
    rcases nm_mm hb hp n with h | ⟨h3, h4⟩
    · subst h
      have e1 : nmS B g 1 = (0, (g 0 : Int)) := if_pos ⟨h1, h2⟩
      have e2 : mmS g 1 = (0, (g 0 : Int)) := if_neg (fun q => q.1 rfl)
      rw [e1, e2]
      exact ⟨rfl, show (0 : Int) ≠ -1 by decide⟩
    · by_cases c : (mmS g n).2 ≤ g n
      · have e1 : nmS B g (n + 1) = nmS B g n := if_neg (by rw [h3]; omega)
        have e2 : mmS g (n + 1) = mmS g n := if_pos ⟨h4, c⟩
        rw [e1, e2]
        exact ⟨h3, h4⟩
      · have e1 : nmS B g (n + 1) = ((n : Int), (g n : Int)) := if_pos ⟨h1, by rw [h3]; omega⟩
        have e2 : mmS g (n + 1) = ((n : Int), (g n : Int)) := if_neg (by omega)
        rw [e1, e2]
        exact ⟨rfl, by show (n : Int) ≠ -1; omega⟩
theorem nm_0 {B : Int} {g : Nat → Nat} (hz : ∀ p, g p = 0) : ∀ n, nmS B g n = (-1, B)
  | 0 => rfl
  | n + 1 => by
    have e1 : nmS B g (n + 1) = nmS B g n := if_neg (by rw [hz n]; omega)
    rw [e1, nm_0 hz n]
def nxtA (X : XS) : Int := if 0 < nP (xs X) then (nmS ((nWy (nP (xs X)) : Int) + 1) (mostP (fwL X)) (nP (xs X))).1 else -1
theorem nm_bd {B : Int} {g : Nat → Nat} (hB : 0 ≤ B ∧ B ≤ 1000) (hb : ∀ p, g p ≤ 1000) : ∀ n, n ≤ 10 → (-1 ≤ (nmS B g n).1 ∧ (nmS B g n).1 ≤ 10) ∧ 0 ≤ (nmS B g n).2 ∧ (nmS B g n).2 ≤ 1000
  | 0, _ => ⟨show (-1 : Int) ≤ -1 ∧ (-1 : Int) ≤ 10 by decide, hB⟩
  | n + 1, h => by
    have h1 := nm_bd hB hb n (by omega)
    have h2 := hb n
    unfold nmS
    split
    · exact ⟨⟨by show -1 ≤ (n : Int); omega, by show (n : Int) ≤ 10; omega⟩, by show 0 ≤ (g n : Int); omega, by show (g n : Int) ≤ 1000; omega⟩
    · exact h1
theorem mm_bd {g : Nat → Nat} (hb : ∀ p, g p ≤ 1000) : ∀ n, n ≤ 10 → (-1 ≤ (mmS g n).1 ∧ (mmS g n).1 ≤ 10) ∧ 0 ≤ (mmS g n).2 ∧ (mmS g n).2 ≤ 1000
  | 0, _ => show ((-1 : Int) ≤ -1 ∧ (-1 : Int) ≤ 10) ∧ (0 : Int) ≤ 0 ∧ (0 : Int) ≤ 1000 by decide
  | n + 1, h => by
    have h1 := mm_bd hb n (by omega)
    have h2 := hb n
    unfold mmS
    split
    · exact h1
    · exact ⟨⟨by show -1 ≤ (n : Int); omega, by show (n : Int) ≤ 10; omega⟩, by show 0 ≤ (g n : Int); omega, by show (g n : Int) ≤ 1000; omega⟩
theorem fwL_len {X : XS} (h : XK X) : (fwL X).length ≤ 379 := by
  have h1 := List.length_filter_le (fitF (xm X)) (wys (nP (xs X)))
  rw [wys_len] at h1
  have h2 := nWy_le (nP (xs X)) (by have := h.s.1; omega)
  unfold fwL
  omega
theorem mo_bd {X : XS} (h : XK X) (p : Nat) : mostP (fwL X) p ≤ 1000 := by have := fwL_len h; have := mostP_le (L := fwL X) (p := p); omega
theorem mo_lt {X : XS} (p : Nat) : (mostP (fwL X) p : Int) < (nWy (nP (xs X)) : Int) + 1 := by
  have h1 := List.length_filter_le (fitF (xm X)) (wys (nP (xs X)))
  rw [wys_len] at h1
  have h2 : (fwL X).length ≤ nWy (nP (xs X)) := h1
  have h3 := mostP_le (L := fwL X) (p := p)
  omega
theorem wy_bd {X : XS} (h : XK X) : 0 ≤ (nWy (nP (xs X)) : Int) + 1 ∧ (nWy (nP (xs X)) : Int) + 1 ≤ 1000 := by have := nWy_le (nP (xs X)) (by have := h.s.1; omega); omega
theorem nxt_m {X : XS} (h : XK X) (hn : 0 < nP (xs X)) : nxtA X = if (fwL X).length = 0 then -1 else (mmS (mostP (fwL X)) (nP (xs X))).1 := by
  unfold nxtA
  rw [if_pos hn]
  by_cases c : (fwL X).length = 0
  · rw [if_pos c]
    have e : fwL X = [] := List.length_eq_zero_iff.mp c
    rw [e, nm_0 (fun p => by have := mostP_le (L := []) (p := p); simpa using this)]
  · rw [if_neg c]
    rcases nm_mm (B := (nWy (nP (xs X)) : Int) + 1) (mo_lt (X := X)) (fun p => mostP_pos (L := fwL X) (p := p) (fun q => c (by rw [q]; rfl))) (nP (xs X)) with h1 | h1
    · omega
    · rw [h1.1]
def LfR (r : Nat → Int32) (c : Nat → Nat) : Prop := ∀ k, k < 19 → r k = iI (c k : Nat)
theorem LfR_s {r : Nat → Int32} {c : Nat → Nat} {k : Nat} (h : LfR r c) : LfR (upd r k (iI ((c k : Int) + 1))) (lfS c k) := by
  intro j hj
  unfold lfS
  by_cases e : j = k
  · subst e; rw [upd_same, if_pos rfl]; rfl
  · rw [upd_ne _ _ _ _ e, if_neg e]; exact h j hj
theorem QF_104 {σ τ : AS} {f : Nat → Int32} (h : QF σ τ) : QF σ (sI τ 104 f) := h.sI (by decide) (by unfold uC; omega) (by decide)
theorem ml2 {l : Launch} {D : va_G} {cA ad : Nat → Nat} {d : Nat} {σ : AS} {K : Option Value → AS → Prop} {g : Nat → Int32} {v1 : Int32} (hR : RO σ) (hK : Go l D cA ad d mX5_mostLeftBy 24 [.ref 101, .int v1, .int (iI 19), .null, .null, .null] [] (sI σ 104 (cpR (fun _ => iI 0) g 19)) K) : ∀ i : Nat, i ≤ 19 → Go l D cA ad d mX5_mostLeftBy 2 [.ref 101, .int v1, .int (iI i), .null, .null, .null] [] (sI σ 104 (cpR (fun _ => iI 0) g i)) K := by
  refine up_loop ?_ (fun i hi ih => ?_)
  · refine go_iload_n dX5_mostLeftBy_2 rfl ?_
    refine go_aload_n dX5_mostLeftBy_3 rfl ?_
    refine go_getR fX5_18 dX5_mostLeftBy_4 rfl (hR _ _ _ rfl) ?_
    refine go_alen1 dX5_mostLeftBy_7 rfl ?_
    refine go_icmp_ge (tgt := 24) dX5_mostLeftBy_8 (by decide) (fun h8 => ?_) (fun h8 => ?_)
    · exact hK
    · exact absurd (by decide) h8
  · refine go_iload_n dX5_mostLeftBy_2 rfl ?_
    refine go_aload_n dX5_mostLeftBy_3 rfl ?_
    refine go_getR fX5_18 dX5_mostLeftBy_4 rfl (hR _ _ _ rfl) ?_
    refine go_alen1 dX5_mostLeftBy_7 rfl ?_
    refine go_icmp_ge (tgt := 24) dX5_mostLeftBy_8 (by decide) (fun h8 => ?_) (fun h8 => ?_)
    · exfalso
      rw [show Int32.ofNat 19 = iI 19 from rfl, iI_le (by omega)] at h8
      omega
    · refine go_aload_n dX5_mostLeftBy_11 rfl ?_
      refine go_getR fX5_18 dX5_mostLeftBy_12 rfl (hR _ _ _ rfl) ?_
      refine go_iload_n dX5_mostLeftBy_15 rfl ?_
      refine go_iconst (v := iI 0) dX5_mostLeftBy_16 (by decide) ?_
      refine go_iast dX5_mostLeftBy_17 rfl (vp_iI (by omega)) ?_
      rw [cl_n _ (by omega), sI_same, sI_sI]
      rw [show upd (cpR (fun _ => iI 0) g i) i (iI 0) = cpR (fun _ => iI 0) g (i + 1) from cpR_s (fun _ => iI 0) g i]
      refine go_iincI dX5_mostLeftBy_18 rfl (Nat.le_of_ble_eq_true rfl) rfl ?_
      refine go_goto (tgt := 2) dX5_mostLeftBy_21 (by decide) ?_
      simp only [List.set, iI_add]
      exact ih

theorem ml28 {l : Launch} {D : va_G} {cA ad : Nat → Nat} {d : Nat} {σ : AS} {K : Option Value → AS → Prop} {X : XS} {p N : Nat} (hR : RO σ) (hK0 : XK X) (hC : CI σ X) (hn : 0 < nP (xs X)) (hp : p < 7) (hK : ∀ r, K (some (.int (iI (N : Nat)))) (sI σ 104 r)) : ∀ (R : List Nat) (i : Nat) (r : Nat → Int32) (c : Nat → Nat) (v4 v5 : Value), (wys (nP (xs X))).drop i = R → i ≤ nWy (nP (xs X)) → LfR r c → (∀ j, c j ≤ i) → mxN (ctF p (R.filter (fitF (xm X))) c) 19 = N → Go l D cA ad (d + 2) mX5_mostLeftBy 28 [.ref 101, .int (iI (p : Nat)), .int (iI (mxN c 19 : Nat)), .int (iI i), v4, v5] [] (sI σ 104 r) K := by
  have hP7 := hK0.s.1
  have hnw := nWy_le (nP (xs X)) (by omega)
  intro R
  induction R with
  | nil =>
    intro i r c v4 v5 hR2 hi hr hcl hres
    have hil := wys_nil hR2 hi
    have hR1 : RO (sI σ 104 r) := hR
    have hC1 : CI (sI σ 104 r) X := hC.q hK0 (QF_104 QF.rf)
    have hmb := mxN_ub c i 19 (fun j _ => hcl j)
    refine go_iload_n dX5_mostLeftBy_28 rfl ?_
    refine go_aload_n dX5_mostLeftBy_29 rfl ?_
    refine go_callV (as := []) wX5_38 dX5_mostLeftBy_30 rfl rfl rfl rfl (Nat.le_of_ble_eq_true rfl) (ct_X5_ways hR1 hK0 hC1 hn ?_)
    refine go_icmp_ge (tgt := 92) dX5_mostLeftBy_33 (by decide) (fun h33 => ?_) (fun h33 => ?_)
    · refine go_iload_n dX5_mostLeftBy_92 rfl ?_
      refine go_iret rfl rfl dX5_mostLeftBy_93 ?_
      have e : mxN c 19 = N := hres
      rw [e]
      exact hK r
    · exfalso
      rw [iI_le (by omega)] at h33
      omega
  | cons x R ih =>
    intro i r c v4 v5 hR2 hi hr hcl hres
    have hx := wys_cons hR2
    have hil := hx.2.2
    have hwl : x < 1700 := by rw [← hx.1]; exact wyN_lt hK0 hx.2.2
    have hR1 : RO (sI σ 104 r) := hR
    have hC1 : CI (sI σ 104 r) X := hC.q hK0 (QF_104 QF.rf)
    have hmb := mxN_ub c i 19 (fun j _ => hcl j)
    refine go_iload_n dX5_mostLeftBy_28 rfl ?_
    refine go_aload_n dX5_mostLeftBy_29 rfl ?_
    refine go_callV (as := []) wX5_38 dX5_mostLeftBy_30 rfl rfl rfl rfl (Nat.le_of_ble_eq_true rfl) (ct_X5_ways hR1 hK0 hC1 hn ?_)
    refine go_icmp_ge (tgt := 92) dX5_mostLeftBy_33 (by decide) (fun h33 => ?_) (fun h33 => ?_)
    · exfalso
      rw [iI_le (by omega)] at h33
      omega
    · refine go_aload_n dX5_mostLeftBy_36 rfl ?_
      refine go_iload_n dX5_mostLeftBy_37 rfl ?_
      refine go_callV (as := [_]) wX5_42 dX5_mostLeftBy_38 rfl rfl rfl rfl (Nat.le_of_ble_eq_true rfl) (ct_wyN hR1 hK0 hC1 hx.2.2 ?_)
      rw [hx.1]
      refine go_istore dX5_mostLeftBy_41 (Nat.le_of_ble_eq_true rfl) rfl ?_
      refine go_aload_n dX5_mostLeftBy_43 rfl ?_
      refine go_iload dX5_mostLeftBy_44 rfl ?_
      refine go_callV (as := [_]) wX5_46 dX5_mostLeftBy_46 rfl rfl rfl rfl (Nat.le_of_ble_eq_true rfl) (ct_fitX hR1 hK0 hC1 hwl (fun hf => ?_) (fun hf => ?_))
      · refine go_if_eq (tgt := 86) dX5_mostLeftBy_49 (by decide) (fun h49 => ?_) (fun h49 => ?_)
        · exact absurd h49 (by decide)
        · refine go_iload dX5_mostLeftBy_52 rfl ?_
          refine go_iload_n dX5_mostLeftBy_54 rfl ?_
          refine go_callS (as := [_, _]) wX5_34 dX5_mostLeftBy_55 rfl rfl (Nat.le_of_ble_eq_true rfl) (ct_X5_gainBy hwl hp ?_)
          have hgk := gkF_ok x p
          have hcb := hcl (gkF x p)
          refine go_bipush (v := iI 9) dX5_mostLeftBy_58 (by decide) ?_
          refine go_iadd dX5_mostLeftBy_60 ?_
          rw [iI_add, hgk.2]
          refine go_istore dX5_mostLeftBy_61 (Nat.le_of_ble_eq_true rfl) rfl ?_
          refine go_aload_n dX5_mostLeftBy_63 rfl ?_
          refine go_getR fX5_18 dX5_mostLeftBy_64 rfl (hR1 _ _ _ rfl) ?_
          refine go_iload dX5_mostLeftBy_67 rfl ?_
          refine go_dup2 dX5_mostLeftBy_69 rfl rfl ?_
          refine go_iald dX5_mostLeftBy_70 rfl (vp_iI (by omega)) ?_
          rw [cl_n _ (by omega)]
          rw [sI_same]
          rw [hr (gkF x p) hgk.1]
          refine go_iconst (v := iI 1) dX5_mostLeftBy_71 (by decide) ?_
          refine go_iadd dX5_mostLeftBy_72 ?_
          rw [iI_add]
          refine go_iast dX5_mostLeftBy_73 rfl (vp_iI (by omega)) ?_
          rw [cl_n _ (by omega), sI_same, sI_sI]
          refine go_iload_n dX5_mostLeftBy_74 rfl ?_
          refine go_aload_n dX5_mostLeftBy_75 rfl ?_
          refine go_getR fX5_18 dX5_mostLeftBy_76 rfl (hR1 _ _ _ rfl) ?_
          refine go_iload dX5_mostLeftBy_79 rfl ?_
          refine go_iald dX5_mostLeftBy_81 rfl (vp_iI (by omega)) ?_
          rw [cl_n _ (by omega), sI_same, upd_same]
          refine go_max wX5_53 dX5_mostLeftBy_82 (Nat.le_of_ble_eq_true rfl) ?_
          rw [iI_mx (by omega)]
          have hmx : mx (mxN c 19 : Int) ((c (gkF x p) : Int) + 1) = (mxN (lfS c (gkF x p)) 19 : Int) := by rw [mxN_s hgk.1]; unfold mx; split <;> split <;> omega
          rw [hmx]
          refine go_istore_n dX5_mostLeftBy_85 (Nat.le_of_ble_eq_true rfl) rfl ?_
          refine go_iincI dX5_mostLeftBy_86 rfl (Nat.le_of_ble_eq_true rfl) rfl ?_
          refine go_goto (tgt := 28) dX5_mostLeftBy_89 (by decide) ?_
          simp only [List.set, iI_add]
          exact ih (i + 1) _ _ _ _ hx.2.1 (by omega) (LfR_s hr) (fun j => by have := hcl j; unfold lfS; split <;> omega) (by rw [List.filter_cons_of_pos hf] at hres; exact hres)
      · refine go_if_eq (tgt := 86) dX5_mostLeftBy_49 (by decide) (fun h49 => ?_) (fun h49 => ?_)
        · refine go_iincI dX5_mostLeftBy_86 rfl (Nat.le_of_ble_eq_true rfl) rfl ?_
          refine go_goto (tgt := 28) dX5_mostLeftBy_89 (by decide) ?_
          simp only [List.set, iI_add]
          exact ih (i + 1) r c _ _ hx.2.1 (by omega) hr (fun j => by have := hcl j; omega) (by rw [List.filter_cons_of_neg (by rw [hf]; decide)] at hres; exact hres)
        · exact absurd h49 (by decide)
theorem ct_X5_mostLeftBy {l : Launch} {D : va_G} {cA ad : Nat → Nat} {d : Nat} {σ : AS} {K : Option Value → AS → Prop} {X : XS} {p : Nat} (hR : RO σ) (hK0 : XK X) (hC : CI σ X) (hn : 0 < nP (xs X)) (hp : p < 7) (hK : ∀ r, K (some (.int (iI (mostP (fwL X) p : Nat)))) (sI σ 104 r)) : Call l D cA ad (d + 2) mX5_mostLeftBy [.ref 101, .int (iI (p : Nat))] σ K := by
  refine call_go (by decide) (Nat.le_of_ble_eq_true rfl) (show Go l D cA ad (d + 2) mX5_mostLeftBy 0 [.ref 101, .int (iI (p : Nat)), .null, .null, .null, .null] [] σ K from ?_)
  refine go_iconst (v := iI 0) dX5_mostLeftBy_0 (by decide) ?_
  refine go_istore_n dX5_mostLeftBy_1 (Nat.le_of_ble_eq_true rfl) rfl ?_
  simp only [List.set]
  have h9 := ml2 (l := l) (D := D) (cA := cA) (ad := ad) (d := d + 2) (σ := σ) (K := K) (g := σ.1 104) (v1 := iI (p : Nat)) hR ?_ 0 (by omega)
  · rw [cpR_0, sI_self] at h9
    exact h9
  refine go_iconst (v := iI 0) dX5_mostLeftBy_24 (by decide) ?_
  refine go_istore_n dX5_mostLeftBy_25 (Nat.le_of_ble_eq_true rfl) rfl ?_
  refine go_iconst (v := iI 0) dX5_mostLeftBy_26 (by decide) ?_
  refine go_istore_n dX5_mostLeftBy_27 (Nat.le_of_ble_eq_true rfl) rfl ?_
  simp only [List.set]
  exact ml28 hR hK0 hC hn hp hK (wys (nP (xs X))) 0 _ (fun _ => 0) _ _ rfl (Nat.zero_le _) (fun k hk => by unfold cpR; rw [if_pos hk]; rfl) (fun _ => Nat.le_refl _) rfl

theorem nm11 {l : Launch} {D : va_G} {cA ad : Nat → Nat} {d : Nat} {σ : AS} {K : Option Value → AS → Prop} {X : XS} (hR : RO σ) (hK0 : XK X) (hC : CI σ X) (hn : 0 < nP (xs X)) (hK : ∀ τ, QF σ τ → K (some (.int (iI (nmS ((nWy (nP (xs X)) : Int) + 1) (mostP (fwL X)) (nP (xs X))).1))) τ) : ∀ (i : Nat) (τ : AS) (v4 : Value), i ≤ nP (xs X) → QF σ τ → Go l D cA ad (d + 3) mX5_nextToMeasure 11 [.ref 101, .int (iI (nmS ((nWy (nP (xs X)) : Int) + 1) (mostP (fwL X)) i).1), .int (iI (nmS ((nWy (nP (xs X)) : Int) + 1) (mostP (fwL X)) i).2), .int (iI i), v4] [] τ K := by
  have hP7 := hK0.s.1
  suffices h : ∀ (r i : Nat) (τ : AS) (v4 : Value), r + i = nP (xs X) → QF σ τ → Go l D cA ad (d + 3) mX5_nextToMeasure 11 [.ref 101, .int (iI (nmS ((nWy (nP (xs X)) : Int) + 1) (mostP (fwL X)) i).1), .int (iI (nmS ((nWy (nP (xs X)) : Int) + 1) (mostP (fwL X)) i).2), .int (iI i), v4] [] τ K from fun i τ v4 hi hq => h (nP (xs X) - i) i τ v4 (by omega) hq
  intro r
  induction r with
  | zero =>
    intro i τ v4 hr hq
    obtain rfl : i = nP (xs X) := by omega
    refine go_iload_n dX5_nextToMeasure_11 rfl ?_
    refine go_aload_n dX5_nextToMeasure_12 rfl ?_
    refine go_getR fX5_21 dX5_nextToMeasure_13 rfl (hq.RO hR _ _ _ rfl) ?_
    refine go_getI fX5_29 dX5_nextToMeasure_16 rfl ?_
    refine go_icmp_ge (tgt := 51) dX5_nextToMeasure_19 (by decide) (fun h19 => ?_) (fun h19 => ?_)
    · refine go_iload_n dX5_nextToMeasure_51 rfl ?_
      refine go_iret rfl rfl dX5_nextToMeasure_52 ?_
      exact hK τ hq
    · exfalso
      rw [(hC.q hK0 hq).2.1.1, iI_le (by omega)] at h19
      omega
  | succ n ih0 =>
    intro i τ v4 hr hq
    have ih := fun i τ v4 (h : i + n = nP (xs X)) hq => ih0 i τ v4 (by omega) hq
    refine go_iload_n dX5_nextToMeasure_11 rfl ?_
    refine go_aload_n dX5_nextToMeasure_12 rfl ?_
    refine go_getR fX5_21 dX5_nextToMeasure_13 rfl (hq.RO hR _ _ _ rfl) ?_
    refine go_getI fX5_29 dX5_nextToMeasure_16 rfl ?_
    refine go_icmp_ge (tgt := 51) dX5_nextToMeasure_19 (by decide) (fun h19 => ?_) (fun h19 => ?_)
    · exfalso
      rw [(hC.q hK0 hq).2.1.1, iI_le (by omega)] at h19
      omega
    · refine go_aload_n dX5_nextToMeasure_22 rfl ?_
      refine go_iload_n dX5_nextToMeasure_23 rfl ?_
      refine go_callV (as := [_]) wX5_50 dX5_nextToMeasure_24 rfl rfl rfl rfl (Nat.le_of_ble_eq_true rfl) (ct_X5_mostLeftBy (p := i) (hq.RO hR) hK0 (hC.q hK0 hq) hn (by omega) (fun r => ?_))
      have hb := mo_bd hK0 i
      have hbd := nm_bd (wy_bd hK0) (mo_bd hK0) i (by omega)
      refine go_istore dX5_nextToMeasure_27 (Nat.le_of_ble_eq_true rfl) rfl ?_
      refine go_iload dX5_nextToMeasure_29 rfl ?_
      refine go_if_le (tgt := 45) dX5_nextToMeasure_31 (by decide) (fun h31 => ?_) (fun h31 => ?_)
      · rw [iI_le0 (by omega)] at h31
        refine go_iincI dX5_nextToMeasure_45 rfl (Nat.le_of_ble_eq_true rfl) rfl ?_
        refine go_goto (tgt := 11) dX5_nextToMeasure_48 (by decide) ?_
        have e : nmS ((nWy (nP (xs X)) : Int) + 1) (mostP (fwL X)) (i + 1) = nmS ((nWy (nP (xs X)) : Int) + 1) (mostP (fwL X)) i := if_neg (by omega)
        simp only [List.set, iI_add]
        rw [← e]
        exact ih (i + 1) _ _ (by omega) (QF_104 hq)
      · rw [iI_le0 (by omega)] at h31
        refine go_iload dX5_nextToMeasure_34 rfl ?_
        refine go_iload_n dX5_nextToMeasure_36 rfl ?_
        refine go_icmp_ge (tgt := 45) dX5_nextToMeasure_37 (by decide) (fun h37 => ?_) (fun h37 => ?_)
        · rw [iI_le (by omega)] at h37
          refine go_iincI dX5_nextToMeasure_45 rfl (Nat.le_of_ble_eq_true rfl) rfl ?_
          refine go_goto (tgt := 11) dX5_nextToMeasure_48 (by decide) ?_
          have e : nmS ((nWy (nP (xs X)) : Int) + 1) (mostP (fwL X)) (i + 1) = nmS ((nWy (nP (xs X)) : Int) + 1) (mostP (fwL X)) i := if_neg (by omega)
          simp only [List.set, iI_add]
          rw [← e]
          exact ih (i + 1) _ _ (by omega) (QF_104 hq)
        · rw [iI_le (by omega)] at h37
          refine go_iload dX5_nextToMeasure_40 rfl ?_
          refine go_istore_n dX5_nextToMeasure_42 (Nat.le_of_ble_eq_true rfl) rfl ?_
          refine go_iload_n dX5_nextToMeasure_43 rfl ?_
          refine go_istore_n dX5_nextToMeasure_44 (Nat.le_of_ble_eq_true rfl) rfl ?_
          refine go_iincI dX5_nextToMeasure_45 rfl (Nat.le_of_ble_eq_true rfl) rfl ?_
          refine go_goto (tgt := 11) dX5_nextToMeasure_48 (by decide) ?_
          have e : nmS ((nWy (nP (xs X)) : Int) + 1) (mostP (fwL X)) (i + 1) = ((i : Int), (mostP (fwL X) i : Int)) := if_pos (by omega)
          simp only [List.set, iI_add]
          have h9 := ih (i + 1) _ (.int (iI (mostP (fwL X) i : Nat))) (by omega) (QF_104 (f := r) hq)
          rw [e] at h9
          exact h9
theorem ct_X5_nextToMeasure {l : Launch} {D : va_G} {cA ad : Nat → Nat} {d : Nat} {σ : AS} {K : Option Value → AS → Prop} {X : XS} (hR : RO σ) (hK0 : XK X) (hC : CI σ X) (hn : 0 < nP (xs X)) (hK : ∀ τ, QF σ τ → K (some (.int (iI (nmS ((nWy (nP (xs X)) : Int) + 1) (mostP (fwL X)) (nP (xs X))).1))) τ) : Call l D cA ad (d + 3) mX5_nextToMeasure [.ref 101] σ K := by
  refine call_go (by decide) (Nat.le_of_ble_eq_true rfl) (show Go l D cA ad (d + 3) mX5_nextToMeasure 0 [.ref 101, .null, .null, .null, .null] [] σ K from ?_)
  refine go_iconst (v := iI (-1)) dX5_nextToMeasure_0 (by decide) ?_
  refine go_istore_n dX5_nextToMeasure_1 (Nat.le_of_ble_eq_true rfl) rfl ?_
  refine go_aload_n dX5_nextToMeasure_2 rfl ?_
  refine go_callV (as := []) wX5_38 dX5_nextToMeasure_3 rfl rfl rfl rfl (Nat.le_of_ble_eq_true rfl) (ct_X5_ways hR hK0 hC hn ?_)
  refine go_iconst (v := iI 1) dX5_nextToMeasure_6 (by decide) ?_
  refine go_iadd dX5_nextToMeasure_7 ?_
  rw [iI_add]
  refine go_istore_n dX5_nextToMeasure_8 (Nat.le_of_ble_eq_true rfl) rfl ?_
  refine go_iconst (v := iI 0) dX5_nextToMeasure_9 (by decide) ?_
  refine go_istore_n dX5_nextToMeasure_10 (Nat.le_of_ble_eq_true rfl) rfl ?_
  simp only [List.set]
  exact nm11 hR hK0 hC hn hK 0 σ _ (by omega) QF.rf

theorem ct_X11_measure {l : Launch} {D : va_G} {cA ad : Nat → Nat} {d : Nat} {σ : AS} {K : Option Value → AS → Prop} {X : XS} (hR : RO σ) (hK0 : XK X) (hC : CI σ X) (hK : ∀ τ, QF σ τ → K (some (.int (iI (nxtA X)))) τ) : Call l D cA ad (d + 4) mX11_measure [.ref 0] σ K := by
  refine call_go (by decide) (Nat.le_of_ble_eq_true rfl) (show Go l D cA ad (d + 4) mX11_measure 0 [.ref 0] [] σ K from ?_)
  refine go_aload_n dX11_measure_0 rfl ?_
  refine go_getR fX11_19 dX11_measure_1 rfl (hR _ _ _ rfl) ?_
  refine go_callV (as := []) wX11_135 dX11_measure_4 rfl rfl rfl rfl (Nat.le_of_ble_eq_true rfl) (ct_told2 hC.2.1 hK0.s (fun hn => ?_) (fun hn => ?_))
  · refine go_if_eq (tgt := 20) dX11_measure_7 (by decide) (fun h7 => ?_) (fun h7 => ?_)
    · exact absurd h7 (by decide)
    · refine go_aload_n dX11_measure_10 rfl ?_
      refine go_getR fX11_85 dX11_measure_11 rfl (hR _ _ _ rfl) ?_
      refine go_callV (as := []) wX11_300 dX11_measure_14 rfl rfl rfl rfl (Nat.le_of_ble_eq_true rfl) (ct_X5_nextToMeasure hR hK0 hC hn (fun τ hq => ?_))
      refine go_goto (tgt := 21) dX11_measure_17 (by decide) ?_
      refine go_iret rfl rfl dX11_measure_21 ?_
      have e : nxtA X = (nmS ((nWy (nP (xs X)) : Int) + 1) (mostP (fwL X)) (nP (xs X))).1 := by unfold nxtA; rw [if_pos hn]
      rw [e] at hK
      exact hK τ hq
  · refine go_if_eq (tgt := 20) dX11_measure_7 (by decide) (fun h7 => ?_) (fun h7 => ?_)
    · refine go_iconst (v := iI (-1)) dX11_measure_20 (by decide) ?_
      refine go_iret rfl rfl dX11_measure_21 ?_
      have e : nxtA X = -1 := by unfold nxtA; rw [if_neg (by omega)]
      rw [e] at hK
      exact hK σ QF.rf
    · exact absurd h7 (by decide)

