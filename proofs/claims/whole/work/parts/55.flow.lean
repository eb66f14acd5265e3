/-! a town that stands, its waters, what flows -/
def nP (s : PS) : Nat := s.2.1
def nQ (s : PS) : Nat := s.2.2.1
def skv (s : PS) (j : Nat) : Int := s.2.2.2.1 j
def pd (s : PS) (i j : Nat) : Int := s.2.2.2.2.1 i j
def pp (s : PS) (i j : Nat) : Int := s.2.2.2.2.2 i j
def PdK (r : Nat → Int) : Prop := 0 ≤ r 0 ∧ r 0 ≤ r 1 ∧ 1 ≤ r 1 ∧ r 1 ≤ 99 ∧ 0 ≤ r 2 ∧ r 2 ≤ 9 ∧ 0 ≤ r 3 ∧ r 3 ≤ 99 ∧ 0 ≤ r 4 ∧ r 4 ≤ 9 ∧ 0 ≤ r 5 ∧ r 5 ≤ 99 ∧ 0 ≤ r 6 ∧ r 6 ≤ 99 ∧ 0 ≤ r 7 ∧ r 7 ≤ 99 ∧ 0 ≤ r 8 ∧ r 8 ≤ 9
def PpK (n : Nat) (r : Nat → Int) : Prop := 0 ≤ r 0 ∧ r 0 < n ∧ 0 ≤ r 1 ∧ r 1 < n ∧ r 0 ≠ r 1 ∧ 1 ≤ r 2 ∧ r 2 ≤ 9 ∧ 0 ≤ r 3 ∧ r 3 ≤ 99 ∧ 0 ≤ r 4 ∧ r 4 ≤ 1
def TwK (s : PS) : Prop := nP s ≤ 7 ∧ nQ s ≤ 9 ∧ (∀ j, j < 3 → 0 ≤ skv s j ∧ skv s j ≤ 9) ∧ (∀ i, i < nP s → PdK (pd s i)) ∧ (∀ k, k < nQ s → PpK (nP s) (pp s k))
def TwC (σ : AS) (s : PS) : Prop := σ.1 3 4 = iI (nP s) ∧ σ.1 3 5 = iI (nQ s) ∧ (∀ j, j < 3 → σ.1 4 j = iI (skv s j)) ∧ (∀ i j, i < nP s → j < 9 → σ.1 (6 + i) j = iI (pd s i j)) ∧ (∀ k j, k < nQ s → j < 5 → σ.1 (14 + k) j = iI (pp s k j))
def TwM (σ : AS) (s : PS) : Prop := σ.1 111 26 = iI (nP s) ∧ σ.1 111 27 = iI (nQ s) ∧ (∀ j, j < 3 → σ.1 116 j = iI (skv s j)) ∧ (∀ i j, i < nP s → j < 9 → σ.1 118 (9 * i + j) = iI (pd s i j)) ∧ (∀ k j, k < nQ s → j < 5 → σ.1 120 (5 * k + j) = iI (pp s k j))
/-- waters: water, carp, pikes, open pipes, over, day -/
abbrev WT : Type := (Nat → Int) × (Nat → Int) × (Nat → Int) × Nat × Int × Nat
def wa (w : WT) : Nat → Int := w.1
def ca (w : WT) : Nat → Int := w.2.1
def pk (w : WT) : Nat → Int := w.2.2.1
def opn (w : WT) : Nat := w.2.2.2.1
def ovr (w : WT) : Int := w.2.2.2.2.1
def dy (w : WT) : Nat := w.2.2.2.2.2
def WK (s : PS) (w : WT) : Prop := (∀ i, i < nP s → 0 ≤ wa w i ∧ wa w i ≤ pd s i 1 ∧ 0 ≤ ca w i ∧ ca w i ≤ 99 ∧ 0 ≤ pk w i ∧ pk w i ≤ 9) ∧ (∀ i, nP s ≤ i → wa w i = 0 ∧ ca w i = 0 ∧ pk w i = 0) ∧ opn w < 2 ^ nQ s ∧ dy w ≤ 20000
def WB (b : Nat) : Prop := sh[b]? = some (0, 10) ∧ sh[b + 1]? = some (1, 7) ∧ sh[b + 2]? = some (1, 7) ∧ sh[b + 3]? = some (1, 7) ∧ R0 b 0 = some (b + 1) ∧ R0 b 1 = some (b + 2) ∧ R0 b 2 = some (b + 3)
theorem WB_87 : WB 87 := ⟨rfl, rfl, rfl, rfl, rfl, rfl, rfl⟩
theorem WB_95 : WB 95 := ⟨rfl, rfl, rfl, rfl, rfl, rfl, rfl⟩
theorem WB_106 : WB 106 := ⟨rfl, rfl, rfl, rfl, rfl, rfl, rfl⟩
def WC (σ : AS) (b : Nat) (w : WT) : Prop := (∀ i, i < 7 → σ.1 (b + 1) i = iI (wa w i) ∧ σ.1 (b + 2) i = iI (ca w i) ∧ σ.1 (b + 3) i = iI (pk w i)) ∧ σ.1 b 3 = iI (opn w) ∧ σ.1 b 4 = iI (ovr w) ∧ σ.1 b 5 = iI (dy w)
def WM (σ : AS) (c : Nat) (w : WT) : Prop := (∀ i, i < 7 → σ.1 c (3 * i) = iI (wa w i) ∧ σ.1 c (3 * i + 1) = iI (ca w i) ∧ σ.1 c (3 * i + 2) = iI (pk w i)) ∧ σ.1 c 21 = iI (opn w) ∧ σ.1 c 22 = iI (ovr w) ∧ σ.1 c 23 = iI (dy w)
/-- laws: their texts and what they say; the one that holds -/
abbrev LwT : Type := List (List Nat × List CL)
def LsK (Ls : LwT) (h : Int) : Prop := Ls.length ≤ 4 ∧ -1 ≤ h ∧ h < Ls.length ∧ ∀ x, x ∈ Ls → TOK x.1 ∧ (∃ q, lwS x.1 242 0 [] = (q, some x.2)) ∧ (codeL x.2).length ≤ 240 ∧ ∀ c, c ∈ x.2 → ClOK c
def LsC (σ : AS) (Ls : LwT) (h : Int) : Prop := σ.1 48 1 = iI Ls.length ∧ σ.1 48 2 = iI h ∧ ∀ k x, Ls[k]? = some x → LwC σ (50 + 4 * k) (codeL x.2)
def hLw (Ls : LwT) (h : Int) : Option (List CL) := if h = -1 then none else (Ls[h.toNat]?).map (fun x => x.2)
def mn (a b : Int) : Int := if b < a then b else a
def mx (a b : Int) : Int := if a < b then b else a
theorem iI_mn {a b : Int} (h : (-2147483648 ≤ a ∧ a < 2147483648) ∧ -2147483648 ≤ b ∧ b < 2147483648) : (if iI b < iI a then iI b else iI a) = iI (mn a b) := iI_min h
theorem iI_mx {a b : Int} (h : (-2147483648 ≤ a ∧ a < 2147483648) ∧ -2147483648 ≤ b ∧ b < 2147483648) : (if iI a < iI b then iI b else iI a) = iI (mx a b) := iI_max h
def pe (s : PS) (k j : Nat) : Nat := (pp s k j).toNat
def lev (s : PS) (w : WT) (p : Nat) : Int := pd s p 2 + wa w p
def hiE (s : PS) (w : WT) (k : Nat) : Nat := if lev s w (pe s k 1) ≤ lev s w (pe s k 0) then pe s k 0 else pe s k 1
def loE (s : PS) (w : WT) (k : Nat) : Nat := if lev s w (pe s k 1) ≤ lev s w (pe s k 0) then pe s k 1 else pe s k 0
def gapF (s : PS) (w : WT) (k : Nat) : Int := lev s w (hiE s w k) - lev s w (loE s w k)
def mostF (s : PS) (w : WT) (k : Nat) : Int := mn (pp s k 2) (mn (wa w (hiE s w k) - pp s k 3) (pd s (loE s w k) 1 - wa w (loE s w k)))
def evF (s : PS) (w : WT) (k : Nat) : Nat → Int := fun j => match j with
  | 0 => gapF s w k
  | 1 => pp s k 2
  | 2 => wa w (hiE s w k)
  | 3 => pp s k 3
  | 4 => wa w (loE s w k)
  | _ => dy w
def lwV (hv : Option (List CL)) (ev : Nat → Int) : Int := match hv with
  | none => ev 0 / 2
  | some L => lawV ev L
def flF (s : PS) (hv : Option (List CL)) (w : WT) (k : Nat) : Int := if gapF s w k = 0 ∨ mostF s w k ≤ 0 then 0 else mx 0 (mn (mostF s w k) (lwV hv (evF s w k)))
theorem pe_ok {s : PS} (h : TwK s) {k : Nat} (hk : k < nQ s) : pp s k 0 = (pe s k 0 : Int) ∧ pp s k 1 = (pe s k 1 : Int) ∧ pe s k 0 < nP s ∧ pe s k 1 < nP s ∧ pe s k 0 ≠ pe s k 1 := by
  have := h.2.2.2.2 k hk
  unfold PpK at this
  unfold pe
  omega
theorem hiE_ok {s : PS} {w : WT} (h : TwK s) {k : Nat} (hk : k < nQ s) : hiE s w k < nP s ∧ loE s w k < nP s ∧ hiE s w k ≠ loE s w k ∧ pp s k 0 + pp s k 1 = (hiE s w k : Int) + (loE s w k : Int) ∧ lev s w (loE s w k) ≤ lev s w (hiE s w k) := by
  have := pe_ok h hk
  unfold hiE loE
  by_cases c : lev s w (pe s k 1) ≤ lev s w (pe s k 0)
  · rw [if_pos c, if_pos c]; omega
  · rw [if_neg c, if_neg c]; omega
theorem lev_bd {s : PS} {w : WT} (h : TwK s) (hw : WK s w) {p : Nat} (hp : p < nP s) : 0 ≤ lev s w p ∧ lev s w p ≤ 108 := by
  have h1 := h.2.2.2.1 p hp
  have h2 := hw.1 p hp
  unfold PdK at h1
  unfold lev
  omega
theorem gap_bd {s : PS} {w : WT} (hS : TwK s) (hw : WK s w) {k : Nat} (hk : k < nQ s) : 0 ≤ gapF s w k ∧ gapF s w k ≤ 108 := by
  have hhl := hiE_ok (w := w) hS hk
  have h1 := lev_bd hS hw hhl.1
  have h2 := lev_bd hS hw hhl.2.1
  unfold gapF
  omega
theorem evF_r {s : PS} {w : WT} (hS : TwK s) (hw : WK s w) {k : Nat} (hk : k < nQ s) : 0 ≤ wa w (hiE s w k) ∧ wa w (hiE s w k) ≤ 99 ∧ 0 ≤ wa w (loE s w k) ∧ wa w (loE s w k) ≤ 99 ∧ 1 ≤ pp s k 2 ∧ pp s k 2 ≤ 9 ∧ 0 ≤ pp s k 3 ∧ pp s k 3 ≤ 99 := by
  have hkq := hS.2.2.2.2 k hk
  unfold PpK at hkq
  have hhl := hiE_ok (w := w) hS hk
  have hH := hS.2.2.2.1 _ hhl.1
  have hO := hS.2.2.2.1 _ hhl.2.1
  have hwH := hw.1 _ hhl.1
  have hwO := hw.1 _ hhl.2.1
  unfold PdK at hH hO
  omega
theorem evF_bd {s : PS} {w : WT} (hS : TwK s) (hw : WK s w) {k : Nat} (hk : k < nQ s) : ∀ j, j < 6 → bd6 (evF s w k j) := by
  have hdy := hw.2.2.2
  have hg := gap_bd hS hw hk
  have hr := evF_r hS hw hk
  intro j hj
  unfold bd6
  rcases (show j = 0 ∨ j = 1 ∨ j = 2 ∨ j = 3 ∨ j = 4 ∨ j = 5 by omega) with rfl | rfl | rfl | rfl | rfl | rfl
  · show -1000000 ≤ gapF s w k ∧ gapF s w k ≤ 1000000; omega
  · show -1000000 ≤ pp s k 2 ∧ pp s k 2 ≤ 1000000; omega
  · show -1000000 ≤ wa w (hiE s w k) ∧ wa w (hiE s w k) ≤ 1000000; omega
  · show -1000000 ≤ pp s k 3 ∧ pp s k 3 ≤ 1000000; omega
  · show -1000000 ≤ wa w (loE s w k) ∧ wa w (loE s w k) ≤ 1000000; omega
  · show -1000000 ≤ (dy w : Int) ∧ (dy w : Int) ≤ 1000000; omega
theorem ct_X2_higherEnd {l : Launch} {D : va_G} {cA ad : Nat → Nat} {d : Nat} {σ : AS} {K : Option Value → AS → Prop} {s : PS} {w : WT} {b k : Nat} (hR : RO σ) (hT : TwC σ s) (hS : TwK s) (hb : WB b) (hW : WC σ b w) (hw : WK s w) (hk : k < nQ s) (hK : K (some (.int (iI (hiE s w k)))) σ) : Call l D cA ad d mX2_higherEnd [.ref 48, .int (iI k), .ref b] σ K := by
  have hP7 := hS.1
  have hQ9 := hS.2.1
  have hpe := pe_ok hS hk
  have hkq := hS.2.2.2.2 k hk
  unfold PpK at hkq
  refine call_go (by decide) (Nat.le_of_ble_eq_true rfl) (show Go l D cA ad d mX2_higherEnd 0 [.ref 48, .int (iI k), .ref b, .null, .null, .null, .null] [] σ K from ?_)
  refine go_aload_n dX2_higherEnd_0 rfl ?_
  refine go_getR fX2_21 dX2_higherEnd_1 rfl (hR _ _ _ rfl) ?_
  refine go_getR fX2_26 dX2_higherEnd_4 rfl (hR _ _ _ rfl) ?_
  refine go_iload_n dX2_higherEnd_7 rfl ?_
  refine go_aald dX2_higherEnd_8 rfl (by decide) (vp_iI (by omega)) (by rw [cl_n _ (by omega)]; exact hR _ _ _ (r33 _ (by omega)).2.2.1) ?_
  refine go_iconst (v := iI 0) dX2_higherEnd_9 (by decide) ?_
  refine go_iald dX2_higherEnd_10 (r33 k (by omega)).2.2.2 (vp_iI (by decide)) ?_
  rw [cl_0, hT.2.2.2.2 k 0 (by omega) (by decide), hpe.1]
  refine go_istore_n dX2_higherEnd_11 (Nat.le_of_ble_eq_true rfl) rfl ?_
  refine go_aload_n dX2_higherEnd_12 rfl ?_
  refine go_getR fX2_21 dX2_higherEnd_13 rfl (hR _ _ _ rfl) ?_
  refine go_getR fX2_26 dX2_higherEnd_16 rfl (hR _ _ _ rfl) ?_
  refine go_iload_n dX2_higherEnd_19 rfl ?_
  refine go_aald dX2_higherEnd_20 rfl (by decide) (vp_iI (by omega)) (by rw [cl_n _ (by omega)]; exact hR _ _ _ (r33 _ (by omega)).2.2.1) ?_
  refine go_iconst (v := iI 1) dX2_higherEnd_21 (by decide) ?_
  refine go_iald dX2_higherEnd_22 (r33 k (by omega)).2.2.2 (vp_iI (by decide)) ?_
  rw [cl_1, hT.2.2.2.2 k 1 (by omega) (by decide), hpe.2.1]
  refine go_istore dX2_higherEnd_23 (Nat.le_of_ble_eq_true rfl) rfl ?_
  refine go_aload_n dX2_higherEnd_25 rfl ?_
  refine go_getR fX2_21 dX2_higherEnd_26 rfl (hR _ _ _ rfl) ?_
  refine go_getR fX2_36 dX2_higherEnd_29 rfl (hR _ _ _ rfl) ?_
  refine go_iload_n dX2_higherEnd_32 rfl ?_
  refine go_aald dX2_higherEnd_33 rfl (by decide) (vp_iI (by omega)) (by rw [cl_n _ (by omega)]; exact hR _ _ _ (r25 _ (by omega)).2.2.1) ?_
  refine go_iconst (v := iI 2) dX2_higherEnd_34 (by decide) ?_
  refine go_iald dX2_higherEnd_35 (r25 _ (by omega)).2.2.2 (vp_iI (by decide)) ?_
  rw [cl_2, hT.2.2.2.1 (pe s k 0) 2 (by omega) (by decide)]
  refine go_aload_n dX2_higherEnd_36 rfl ?_
  refine go_getR fX2_39 dX2_higherEnd_37 hb.1 (hR _ _ _ hb.2.2.2.2.1) ?_
  refine go_iload_n dX2_higherEnd_40 rfl ?_
  refine go_iald dX2_higherEnd_41 hb.2.1 (vp_iI (by omega)) ?_
  rw [cl_n _ (by omega), (hW.1 (pe s k 0) (by omega)).1]
  refine go_iadd dX2_higherEnd_42 ?_
  refine go_istore dX2_higherEnd_43 (Nat.le_of_ble_eq_true rfl) rfl ?_
  refine go_aload_n dX2_higherEnd_45 rfl ?_
  refine go_getR fX2_21 dX2_higherEnd_46 rfl (hR _ _ _ rfl) ?_
  refine go_getR fX2_36 dX2_higherEnd_49 rfl (hR _ _ _ rfl) ?_
  refine go_iload dX2_higherEnd_52 rfl ?_
  refine go_aald dX2_higherEnd_54 rfl (by decide) (vp_iI (by omega)) (by rw [cl_n _ (by omega)]; exact hR _ _ _ (r25 _ (by omega)).2.2.1) ?_
  refine go_iconst (v := iI 2) dX2_higherEnd_55 (by decide) ?_
  refine go_iald dX2_higherEnd_56 (r25 _ (by omega)).2.2.2 (vp_iI (by decide)) ?_
  rw [cl_2, hT.2.2.2.1 (pe s k 1) 2 (by omega) (by decide)]
  refine go_aload_n dX2_higherEnd_57 rfl ?_
  refine go_getR fX2_39 dX2_higherEnd_58 hb.1 (hR _ _ _ hb.2.2.2.2.1) ?_
  refine go_iload dX2_higherEnd_61 rfl ?_
  refine go_iald dX2_higherEnd_63 hb.2.1 (vp_iI (by omega)) ?_
  rw [cl_n _ (by omega), (hW.1 (pe s k 1) (by omega)).1]
  refine go_iadd dX2_higherEnd_64 ?_
  refine go_istore dX2_higherEnd_65 (Nat.le_of_ble_eq_true rfl) rfl ?_
  refine go_iload dX2_higherEnd_67 rfl ?_
  refine go_iload dX2_higherEnd_69 rfl ?_
  refine go_icmp_lt (tgt := 78) dX2_higherEnd_71 (by decide) (fun h71 => ?_) (fun h71 => ?_)
  · rw [iI_add, iI_add, iI_lt (by have := lev_bd hS hw hpe.2.2.1; have := lev_bd hS hw hpe.2.2.2.1; unfold lev at *; omega)] at h71
    refine go_iload dX2_higherEnd_78 rfl ?_
    refine go_iret rfl rfl dX2_higherEnd_80 ?_
    have e : hiE s w k = pe s k 1 := by unfold hiE lev; rw [if_neg (by omega)]
    rw [e] at hK
    exact hK
  · rw [iI_add, iI_add, iI_lt (by have := lev_bd hS hw hpe.2.2.1; have := lev_bd hS hw hpe.2.2.2.1; unfold lev at *; omega)] at h71
    refine go_iload_n dX2_higherEnd_74 rfl ?_
    refine go_goto (tgt := 80) dX2_higherEnd_75 (by decide) ?_
    refine go_iret rfl rfl dX2_higherEnd_80 ?_
    have e : hiE s w k = pe s k 0 := by unfold hiE lev; rw [if_pos (by omega)]
    rw [e] at hK
    exact hK

theorem r49 : ∀ i, i < 4 → R0 49 i = some (50 + 4 * i) := by decide +kernel
/-- only letters and stacks of laws have changed -/
def Fr2 (σ τ : AS) : Prop := τ.2 = σ.2 ∧ ∀ k, (∀ i, i < 4 → k ≠ 52 + 4 * i ∧ k ≠ 53 + 4 * i) → τ.1 k = σ.1 k
theorem Fr2.rf {σ : AS} : Fr2 σ σ := ⟨rfl, fun _ _ => rfl⟩
theorem Fr2.tr {σ τ ρ : AS} (h : Fr2 σ τ) (g : Fr2 τ ρ) : Fr2 σ ρ := ⟨g.1.trans h.1, fun k hk => (g.2 k hk).trans (h.2 k hk)⟩
theorem Fr2.of {σ τ : AS} {n : Nat} {Ls : LwT} {h : Int} (hR : RO σ) (fr : Fr (50 + 4 * n + 2) (50 + 4 * n + 3) σ τ) (hn : n < Ls.length) (hLk : LsK Ls h) : Fr2 σ τ := ⟨fr.1, fun k hk => fr.2 k (by have := hk n (by have := hLk.1; omega); omega)⟩
theorem Fr2.lo {σ τ : AS} (h : Fr2 σ τ) {k : Nat} (hk : k < 52 ∨ 65 < k) : τ.1 k = σ.1 k := h.2 k (fun i hi => by omega)
theorem Fr2.RO {σ τ : AS} (h : Fr2 σ τ) (hR : RO σ) : RO τ := by
  intro k j a e
  have := hR k j a e
  rw [show τ.2.2 = σ.2.2 by rw [h.1]]
  exact this
theorem ct_X2_flowThrough {l : Launch} {D : va_G} {cA ad : Nat → Nat} {d : Nat} {σ : AS} {K : Option Value → AS → Prop} {s : PS} {w : WT} {Ls : LwT} {h : Int} {b k : Nat} (hR : RO σ) (hT : TwC σ s) (hS : TwK s) (hb : WB b) (hW : WC σ b w) (hw : WK s w) (hLk : LsK Ls h) (hL : LsC σ Ls h) (hk : k < nQ s) (hK : ∀ τ', Fr2 σ τ' → K (some (.int (iI (flF s (hLw Ls h) w k)))) τ') : Call l D cA ad (d + 2) mX2_flowThrough [.ref 48, .int (iI k), .ref b] σ K := by
  have hP7 := hS.1
  have hQ9 := hS.2.1
  have hpe := pe_ok hS hk
  have hkq := hS.2.2.2.2 k hk
  unfold PpK at hkq
  have hhl := hiE_ok (w := w) hS hk
  have hH := hS.2.2.2.1 _ hhl.1
  have hO := hS.2.2.2.1 _ hhl.2.1
  have hwH := hw.1 _ hhl.1
  have hwO := hw.1 _ hhl.2.1
  unfold PdK at hH hO
  have elo : iI (pp s k 0) + iI (pp s k 1) - iI (hiE s w k : Nat) = iI (loE s w k : Nat) := by rw [iI_add, iI_sub]; congr 1; omega
  have egp : iI (pd s (hiE s w k) 2) + iI (wa w (hiE s w k)) - iI (pd s (loE s w k) 2) - iI (wa w (loE s w k)) = iI (gapF s w k) := by rw [iI_add, iI_sub, iI_sub]; congr 1; unfold gapF lev; omega
  have hgb : 0 ≤ gapF s w k ∧ gapF s w k ≤ 108 := by unfold gapF lev; unfold lev at hhl; omega
  have hmb : -1000 ≤ mostF s w k ∧ mostF s w k ≤ 9 := by unfold mostF mn; split <;> split <;> omega
  have hLk0 := hLk.1
  have hLk1 := hLk.2.1
  have hLk2 := hLk.2.2.1
  refine call_go (by decide) (Nat.le_of_ble_eq_true rfl) (show Go l D cA ad (d + 2) mX2_flowThrough 0 [.ref 48, .int (iI k), .ref b, .null, .null, .null, .null, .null, .null, .null, .null] [] σ K from ?_)
  refine go_aload_n dX2_flowThrough_0 rfl ?_
  refine go_getR fX2_21 dX2_flowThrough_1 rfl (hR _ _ _ rfl) ?_
  refine go_getR fX2_26 dX2_flowThrough_4 rfl (hR _ _ _ rfl) ?_
  refine go_iload_n dX2_flowThrough_7 rfl ?_
  refine go_aald dX2_flowThrough_8 rfl (by decide) (vp_iI (by omega)) (by rw [cl_n _ (by omega)]; exact hR _ _ _ (r33 _ (by omega)).2.2.1) ?_
  refine go_astore_n dX2_flowThrough_9 (Nat.le_of_ble_eq_true rfl) rfl ?_
  refine go_aload_n dX2_flowThrough_10 rfl ?_
  refine go_iload_n dX2_flowThrough_11 rfl ?_
  refine go_aload_n dX2_flowThrough_12 rfl ?_
  refine go_callV (as := [_, _]) wX2_32 dX2_flowThrough_13 rfl rfl rfl rfl (Nat.le_of_ble_eq_true rfl) (ct_X2_higherEnd hR hT hS hb hW hw hk ?_)
  refine go_istore dX2_flowThrough_16 (Nat.le_of_ble_eq_true rfl) rfl ?_
  refine go_aload_n dX2_flowThrough_18 rfl ?_
  refine go_iconst (v := iI 0) dX2_flowThrough_19 (by decide) ?_
  refine go_iald dX2_flowThrough_20 (r33 k (by omega)).2.2.2 (vp_iI (by decide)) ?_
  rw [cl_0, hT.2.2.2.2 k 0 (by omega) (by decide)]
  refine go_aload_n dX2_flowThrough_21 rfl ?_
  refine go_iconst (v := iI 1) dX2_flowThrough_22 (by decide) ?_
  refine go_iald dX2_flowThrough_23 (r33 k (by omega)).2.2.2 (vp_iI (by decide)) ?_
  rw [cl_1, hT.2.2.2.2 k 1 (by omega) (by decide)]
  refine go_iadd dX2_flowThrough_24 ?_
  refine go_iload dX2_flowThrough_25 rfl ?_
  refine go_isub dX2_flowThrough_27 ?_
  rw [elo]
  refine go_istore dX2_flowThrough_28 (Nat.le_of_ble_eq_true rfl) rfl ?_
  refine go_aload_n dX2_flowThrough_30 rfl ?_
  refine go_getR fX2_21 dX2_flowThrough_31 rfl (hR _ _ _ rfl) ?_
  refine go_getR fX2_36 dX2_flowThrough_34 rfl (hR _ _ _ rfl) ?_
  refine go_iload dX2_flowThrough_37 rfl ?_
  refine go_aald dX2_flowThrough_39 rfl (by decide) (vp_iI (by omega)) (by rw [cl_n _ (by omega)]; exact hR _ _ _ (r25 _ (by omega)).2.2.1) ?_
  refine go_iconst (v := iI 2) dX2_flowThrough_40 (by decide) ?_
  refine go_iald dX2_flowThrough_41 (r25 _ (by omega)).2.2.2 (vp_iI (by decide)) ?_
  rw [cl_2, hT.2.2.2.1 (hiE s w k) 2 (by omega) (by decide)]
  refine go_aload_n dX2_flowThrough_42 rfl ?_
  refine go_getR fX2_39 dX2_flowThrough_43 hb.1 (hR _ _ _ hb.2.2.2.2.1) ?_
  refine go_iload dX2_flowThrough_46 rfl ?_
  refine go_iald dX2_flowThrough_48 hb.2.1 (vp_iI (by omega)) ?_
  rw [cl_n _ (by omega), (hW.1 (hiE s w k) (by omega)).1]
  refine go_iadd dX2_flowThrough_49 ?_
  refine go_aload_n dX2_flowThrough_50 rfl ?_
  refine go_getR fX2_21 dX2_flowThrough_51 rfl (hR _ _ _ rfl) ?_
  refine go_getR fX2_36 dX2_flowThrough_54 rfl (hR _ _ _ rfl) ?_
  refine go_iload dX2_flowThrough_57 rfl ?_
  refine go_aald dX2_flowThrough_59 rfl (by decide) (vp_iI (by omega)) (by rw [cl_n _ (by omega)]; exact hR _ _ _ (r25 _ (by omega)).2.2.1) ?_
  refine go_iconst (v := iI 2) dX2_flowThrough_60 (by decide) ?_
  refine go_iald dX2_flowThrough_61 (r25 _ (by omega)).2.2.2 (vp_iI (by decide)) ?_
  rw [cl_2, hT.2.2.2.1 (loE s w k) 2 (by omega) (by decide)]
  refine go_isub dX2_flowThrough_62 ?_
  refine go_aload_n dX2_flowThrough_63 rfl ?_
  refine go_getR fX2_39 dX2_flowThrough_64 hb.1 (hR _ _ _ hb.2.2.2.2.1) ?_
  refine go_iload dX2_flowThrough_67 rfl ?_
  refine go_iald dX2_flowThrough_69 hb.2.1 (vp_iI (by omega)) ?_
  rw [cl_n _ (by omega), (hW.1 (loE s w k) (by omega)).1]
  refine go_isub dX2_flowThrough_70 ?_
  rw [egp]
  refine go_istore dX2_flowThrough_71 (Nat.le_of_ble_eq_true rfl) rfl ?_
  refine go_aload_n dX2_flowThrough_73 rfl ?_
  refine go_getR fX2_39 dX2_flowThrough_74 hb.1 (hR _ _ _ hb.2.2.2.2.1) ?_
  refine go_iload dX2_flowThrough_77 rfl ?_
  refine go_iald dX2_flowThrough_79 hb.2.1 (vp_iI (by omega)) ?_
  rw [cl_n _ (by omega), (hW.1 (hiE s w k) (by omega)).1]
  refine go_aload_n dX2_flowThrough_80 rfl ?_
  refine go_iconst (v := iI 3) dX2_flowThrough_81 (by decide) ?_
  refine go_iald dX2_flowThrough_82 (r33 k (by omega)).2.2.2 (vp_iI (by decide)) ?_
  rw [cl_3, hT.2.2.2.2 k 3 (by omega) (by decide)]
  refine go_isub dX2_flowThrough_83 ?_
  rw [iI_sub]
  refine go_istore dX2_flowThrough_84 (Nat.le_of_ble_eq_true rfl) rfl ?_
  refine go_aload_n dX2_flowThrough_86 rfl ?_
  refine go_getR fX2_21 dX2_flowThrough_87 rfl (hR _ _ _ rfl) ?_
  refine go_getR fX2_36 dX2_flowThrough_90 rfl (hR _ _ _ rfl) ?_
  refine go_iload dX2_flowThrough_93 rfl ?_
  refine go_aald dX2_flowThrough_95 rfl (by decide) (vp_iI (by omega)) (by rw [cl_n _ (by omega)]; exact hR _ _ _ (r25 _ (by omega)).2.2.1) ?_
  refine go_iconst (v := iI 1) dX2_flowThrough_96 (by decide) ?_
  refine go_iald dX2_flowThrough_97 (r25 _ (by omega)).2.2.2 (vp_iI (by decide)) ?_
  rw [cl_1, hT.2.2.2.1 (loE s w k) 1 (by omega) (by decide)]
  refine go_aload_n dX2_flowThrough_98 rfl ?_
  refine go_getR fX2_39 dX2_flowThrough_99 hb.1 (hR _ _ _ hb.2.2.2.2.1) ?_
  refine go_iload dX2_flowThrough_102 rfl ?_
  refine go_iald dX2_flowThrough_104 hb.2.1 (vp_iI (by omega)) ?_
  rw [cl_n _ (by omega), (hW.1 (loE s w k) (by omega)).1]
  refine go_isub dX2_flowThrough_105 ?_
  rw [iI_sub]
  refine go_istore dX2_flowThrough_106 (Nat.le_of_ble_eq_true rfl) rfl ?_
  refine go_aload_n dX2_flowThrough_108 rfl ?_
  refine go_iconst (v := iI 2) dX2_flowThrough_109 (by decide) ?_
  refine go_iald dX2_flowThrough_110 (r33 k (by omega)).2.2.2 (vp_iI (by decide)) ?_
  rw [cl_2, hT.2.2.2.2 k 2 (by omega) (by decide)]
  refine go_iload dX2_flowThrough_111 rfl ?_
  refine go_iload dX2_flowThrough_113 rfl ?_
  refine go_min wX2_45 dX2_flowThrough_115 (Nat.le_of_ble_eq_true rfl) ?_
  rw [iI_mn (by omega)]
  refine go_min wX2_45 dX2_flowThrough_118 (Nat.le_of_ble_eq_true rfl) ?_
  rw [iI_mn (by unfold mn; split <;> omega), show mn (pp s k 2) (mn (wa w (hiE s w k) - pp s k 3) (pd s (loE s w k) 1 - wa w (loE s w k))) = mostF s w k from rfl]
  refine go_istore dX2_flowThrough_121 (Nat.le_of_ble_eq_true rfl) rfl ?_
  refine go_iload dX2_flowThrough_123 rfl ?_
  refine go_if_eq (tgt := 133) dX2_flowThrough_125 (by decide) (fun h125 => ?_) (fun h125 => ?_)
  · rw [iI_eq0 (by omega)] at h125
    refine go_iconst (v := iI 0) dX2_flowThrough_133 (by decide) ?_
    refine go_iret rfl rfl dX2_flowThrough_134 ?_
    have e : flF s (hLw Ls h) w k = 0 := by unfold flF; rw [if_pos (Or.inl h125)]
    have h9 := hK σ Fr2.rf
    rw [e] at h9
    exact h9
  · rw [iI_eq0 (by omega)] at h125
    refine go_iload dX2_flowThrough_128 rfl ?_
    refine go_if_gt (tgt := 135) dX2_flowThrough_130 (by decide) (fun h130 => ?_) (fun h130 => ?_)
    · rw [iI_0lt (by omega)] at h130
      refine go_iload dX2_flowThrough_135 rfl ?_
      refine go_iconst (v := iI 2) dX2_flowThrough_137 (by decide) ?_
      refine go_idiv dX2_flowThrough_138 (by decide) ?_
      rw [iI_div (by omega) (by decide)]
      refine go_istore dX2_flowThrough_139 (Nat.le_of_ble_eq_true rfl) rfl ?_
      refine go_aload_n dX2_flowThrough_141 rfl ?_
      refine go_getI fX2_17 dX2_flowThrough_142 rfl ?_
      refine go_if_lt (tgt := 199) dX2_flowThrough_145 (by decide) (fun h145 => ?_) (fun h145 => ?_)
      · rw [hL.2.1, iI_lt0 (by omega)] at h145
        have hh : h = -1 := by omega
        have hV : lwV (hLw Ls h) (evF s w k) = gapF s w k / 2 := by unfold hLw; rw [if_pos hh]; rfl
        refine go_iconst (v := iI 0) dX2_flowThrough_199 (by decide) ?_
        refine go_iload dX2_flowThrough_200 rfl ?_
        refine go_iload dX2_flowThrough_202 rfl ?_
        refine go_min wX2_45 dX2_flowThrough_204 (Nat.le_of_ble_eq_true rfl) ?_
        refine go_max wX2_61 dX2_flowThrough_207 (Nat.le_of_ble_eq_true rfl) ?_
        refine go_iret rfl rfl dX2_flowThrough_210 ?_
        rw [iI_mn (by omega), iI_mx (by unfold mn; split <;> omega)]
        have e : flF s (hLw Ls h) w k = mx 0 (mn (mostF s w k) (gapF s w k / 2)) := by unfold flF; rw [if_neg (by omega), hV]
        have h9 := hK σ Fr2.rf
        rw [e] at h9
        exact h9
      · rw [hL.2.1, iI_lt0 (by omega)] at h145
        refine go_aload_n dX2_flowThrough_148 rfl ?_
        refine go_getI fX2_17 dX2_flowThrough_149 rfl ?_
        refine go_aload_n dX2_flowThrough_152 rfl ?_
        refine go_getI fX2_51 dX2_flowThrough_153 rfl ?_
        refine go_icmp_ge (tgt := 199) dX2_flowThrough_156 (by decide) (fun h156 => ?_) (fun h156 => ?_)
        · exfalso
          rw [hL.2.1, hL.1, iI_le (by omega)] at h156
          omega
        · obtain ⟨n, hh⟩ : ∃ n : Nat, h = n := ⟨h.toNat, by omega⟩
          have hn : n < Ls.length := by omega
          have hx : Ls[n]? = some Ls[n] := List.getElem?_eq_getElem hn
          have hlk := hLk.2.2.2 _ (List.getElem_mem hn)
          have hV : lwV (hLw Ls h) (evF s w k) = lawV (evF s w k) (Ls[n]).2 := by unfold hLw; rw [if_neg (by omega), hh, Int.toNat_natCast, hx]; rfl
          have hev := evF_bd hS hw hk
          have hlb := lawV_bd hev _ hlk.2.2.2
          unfold bd6 at hlb
          refine go_aload_n dX2_flowThrough_159 rfl ?_
          refine go_getR fX2_11 dX2_flowThrough_160 rfl (hR _ _ _ rfl) ?_
          refine go_aload_n dX2_flowThrough_163 rfl ?_
          refine go_getI fX2_17 dX2_flowThrough_164 rfl ?_
          refine go_aald dX2_flowThrough_167 rfl (by decide) (by rw [hL.2.1, hh]; exact vp_iI (by omega)) (by rw [hL.2.1, hh, cl_n _ (by omega)]; exact hR _ _ _ (r49 _ (by omega))) ?_
          refine go_iload dX2_flowThrough_168 rfl ?_
          refine go_aload_n dX2_flowThrough_170 rfl ?_
          refine go_iconst (v := iI 2) dX2_flowThrough_171 (by decide) ?_
          refine go_iald dX2_flowThrough_172 (r33 k (by omega)).2.2.2 (vp_iI (by decide)) ?_
          rw [cl_2, hT.2.2.2.2 k 2 (by omega) (by decide)]
          refine go_aload_n dX2_flowThrough_173 rfl ?_
          refine go_getR fX2_39 dX2_flowThrough_174 hb.1 (hR _ _ _ hb.2.2.2.2.1) ?_
          refine go_iload dX2_flowThrough_177 rfl ?_
          refine go_iald dX2_flowThrough_179 hb.2.1 (vp_iI (by omega)) ?_
          rw [cl_n _ (by omega), (hW.1 (hiE s w k) (by omega)).1]
          refine go_aload_n dX2_flowThrough_180 rfl ?_
          refine go_iconst (v := iI 3) dX2_flowThrough_181 (by decide) ?_
          refine go_iald dX2_flowThrough_182 (r33 k (by omega)).2.2.2 (vp_iI (by decide)) ?_
          rw [cl_3, hT.2.2.2.2 k 3 (by omega) (by decide)]
          refine go_aload_n dX2_flowThrough_183 rfl ?_
          refine go_getR fX2_39 dX2_flowThrough_184 hb.1 (hR _ _ _ hb.2.2.2.2.1) ?_
          refine go_iload dX2_flowThrough_187 rfl ?_
          refine go_iald dX2_flowThrough_189 hb.2.1 (vp_iI (by omega)) ?_
          rw [cl_n _ (by omega), (hW.1 (loE s w k) (by omega)).1]
          refine go_aload_n dX2_flowThrough_190 rfl ?_
          refine go_getI fX2_54 dX2_flowThrough_191 hb.1 ?_
          rw [hW.2.2.2]
          refine go_callV (as := [_, _, _, _, _, _]) wX2_57 dX2_flowThrough_194 (LB_ok _ (by omega)).1 rfl rfl rfl (Nat.le_of_ble_eq_true rfl) (ct_X3_worth (ev := evF s w k) hR (LB_ok _ (by omega)) (hL.2.2 _ _ hx) hlk.2.2.1 hev hlk.2.2.2 (fun τ' fr => ?_))
          refine go_istore dX2_flowThrough_197 (Nat.le_of_ble_eq_true rfl) rfl ?_
          refine go_iconst (v := iI 0) dX2_flowThrough_199 (by decide) ?_
          refine go_iload dX2_flowThrough_200 rfl ?_
          refine go_iload dX2_flowThrough_202 rfl ?_
          refine go_min wX2_45 dX2_flowThrough_204 (Nat.le_of_ble_eq_true rfl) ?_
          refine go_max wX2_61 dX2_flowThrough_207 (Nat.le_of_ble_eq_true rfl) ?_
          refine go_iret rfl rfl dX2_flowThrough_210 ?_
          rw [iI_mn (by omega), iI_mx (by unfold mn; split <;> omega)]
          have e : flF s (hLw Ls h) w k = mx 0 (mn (mostF s w k) (lawV (evF s w k) (Ls[n]).2)) := by unfold flF; rw [if_neg (by omega), hV]
          have h9 := hK τ' (Fr2.of hR fr hn hLk)
          rw [e] at h9
          exact h9
    · rw [iI_0lt (by omega)] at h130
      refine go_iconst (v := iI 0) dX2_flowThrough_133 (by decide) ?_
      refine go_iret rfl rfl dX2_flowThrough_134 ?_
      have e : flF s (hLw Ls h) w k = 0 := by unfold flF; rw [if_pos (Or.inr (by omega))]
      have h9 := hK σ Fr2.rf
      rw [e] at h9
      exact h9

