/-! sums, sets of bits -/
theorem ix3 {p : Nat} {k : Int} (n : Nat) (h : 3 * (p : Int) + k = n) : iI (3 * (p : Int)) + iI k = iI (n : Int) := by rw [iI_add, h]
def btF (P : Nat → Bool) : Nat → Nat
  | 0 => 0
  | n + 1 => if P n = true then btF P n ||| 2 ^ n else btF P n
theorem btF_lt (P : Nat → Bool) : ∀ n, n ≤ 9 → btF P n < 2 ^ n
  | 0, _ => by show 0 < 2 ^ 0; decide
  | n + 1, h => by
    have ih := btF_lt P n (by omega)
    have hp : 2 ^ n < 2 ^ (n + 1) := Nat.pow_lt_pow_right (by decide) (by omega)
    unfold btF
    split
    · exact or_lt (n + 1) (by omega) n (by omega) _ (by omega)
    · omega
theorem btF_512 (P : Nat → Bool) (n : Nat) (h : n ≤ 9) : btF P n < 512 := Nat.lt_of_lt_of_le (btF_lt P n h) (pw_lt n (by omega))
theorem btF_t {P : Nat → Bool} {n : Nat} (h : P n = true) : btF P (n + 1) = btF P n ||| 2 ^ n := if_pos h
theorem btF_f {P : Nat → Bool} {n : Nat} (h : P n = false) : btF P (n + 1) = btF P n := if_neg (by rw [h]; decide)
def suF (f : Nat → Int) : Nat → Int
  | 0 => 0
  | n + 1 => suF f n + f n
theorem suF_0 {f : Nat → Int} {n : Nat} (h : ∀ i, n ≤ i → f i = 0) : ∀ k, suF f (n + k) = suF f n
  | 0 => rfl
  | k + 1 => by
    show suF f (n + k) + f (n + k) = _
    rw [suF_0 h k, h (n + k) (by omega)]
    omega
theorem suF_7 {f : Nat → Int} {n : Nat} (h : ∀ i, n ≤ i → f i = 0) (hn : n ≤ 7) : suF f 7 = suF f n := by
  have := suF_0 h (7 - n)
  rwa [show n + (7 - n) = 7 by omega] at this
def barP (s : PS) (w : WT) (i : Nat) : Bool := decide (wa w i < pd s i 3)
def barF (s : PS) (w : WT) : Nat := btF (barP s w) (nP s)
theorem b_or0 (x : Int32) : x ||| iI 0 = x := by show x ||| 0 = x; exact Int32.or_zero
theorem WR_12 {r r' : Nat → Int32} {w : WT} {f g : Nat → Int} (hW : WR r w) (h1 : ∀ i, i < 7 → r' (3 * i + 1) = iI (f i)) (h2 : ∀ i, i < 7 → r' (3 * i + 2) = iI (g i)) (h3 : ∀ j, (∀ i, i < 7 → j ≠ 3 * i + 1 ∧ j ≠ 3 * i + 2) → r' j = r j) : WR r' (wa w, f, g, w.2.2.2) := by
  refine ⟨fun i hi => ⟨?_, h1 i hi, h2 i hi⟩, ?_, ?_, ?_⟩
  · rw [h3 _ (fun i hi => by omega)]; exact (hW.1 i hi).1
  · rw [h3 _ (fun i hi => by omega)]; exact hW.2.1
  · rw [h3 _ (fun i hi => by omega)]; exact hW.2.2.1
  · rw [h3 _ (fun i hi => by omega)]; exact hW.2.2.2
theorem WR_hi {r : Nat → Int32} {w : WT} {j : Nat} {x : Int32} (hW : WR r w) (hj : 24 ≤ j) : WR (upd r j x) w := by
  refine ⟨fun i hi => ⟨?_, ?_, ?_⟩, ?_, ?_, ?_⟩
  · rw [upd_ne _ _ _ _ (by omega)]; exact (hW.1 i hi).1
  · rw [upd_ne _ _ _ _ (by omega)]; exact (hW.1 i hi).2.1
  · rw [upd_ne _ _ _ _ (by omega)]; exact (hW.1 i hi).2.2
  · rw [upd_ne _ _ _ _ (by omega)]; exact hW.2.1
  · rw [upd_ne _ _ _ _ (by omega)]; exact hW.2.2.1
  · rw [upd_ne _ _ _ _ (by omega)]; exact hW.2.2.2
theorem WR_live {r : Nat → Int32} {s : PS} {w : WT} {p : Nat} {X : Int} (hp : p < 7) (hW : WR r w) (h0 : wa w p ≠ 0) (hX : X = mx 0 (ca w p - 2 * pk w p)) {g : Nat → Int32} (hg : (¬ ca w p < pk w p ∧ g = upd r (3 * p + 1) (iI X)) ∨ (ca w p < pk w p ∧ g = upd (upd r (3 * p + 1) (iI X)) (3 * p + 2) (iI (pk w p - 1)))) : WR (if skv s 2 ≤ wa w p then upd g (3 * p + 1) (iI (mn 99 (X + X / 4))) else g) (livF s p w) ∧ ∀ j, 24 ≤ j → (if skv s 2 ≤ wa w p then upd g (3 * p + 1) (iI (mn 99 (X + X / 4))) else g) j = r j := by
  have g1 : g (3 * p + 1) = iI X := by
    rcases hg with ⟨_, e⟩ | ⟨_, e⟩ <;> rw [e]
    · rw [upd_same]
    · rw [upd_ne _ _ _ _ (by omega), upd_same]
  have g2 : g (3 * p + 2) = iI (if ca w p < pk w p then pk w p - 1 else pk w p) := by
    rcases hg with ⟨c, e⟩ | ⟨c, e⟩ <;> rw [e]
    · rw [upd_ne _ _ _ _ (by omega), if_neg c]; exact (hW.1 p hp).2.2
    · rw [upd_same, if_pos c]
  have g3 : ∀ j, j ≠ 3 * p + 1 → j ≠ 3 * p + 2 → g j = r j := by
    intro j h1 h2
    rcases hg with ⟨_, e⟩ | ⟨_, e⟩ <;> rw [e]
    · rw [upd_ne _ _ _ _ h1]
    · rw [upd_ne _ _ _ _ h2, upd_ne _ _ _ _ h1]
  have k : ∀ j, j ≠ 3 * p + 1 → (if skv s 2 ≤ wa w p then upd g (3 * p + 1) (iI (mn 99 (X + X / 4))) else g) j = g j := by
    intro j hj
    split
    · exact upd_ne _ _ _ _ hj
    · rfl
  refine ⟨?_, fun j hj => by rw [k j (by omega), g3 j (by omega) (by omega)]⟩
  unfold livF
  rw [if_neg h0]
  refine WR_12 hW (fun i hi => ?_) (fun i hi => ?_) (fun j hj => by have := hj p hp; rw [k j this.1, g3 j this.1 this.2])
  · by_cases hi2 : i = p
    · subst hi2
      unfold setF
      rw [if_pos rfl, ← hX]
      split
      · exact upd_same _ _ _
      · exact g1
    · rw [k _ (by omega), g3 _ (by omega) (by omega), setF_n hi2]; exact (hW.1 i hi).2.1
  · rw [k _ (by omega)]
    by_cases hi2 : i = p
    · subst hi2
      unfold setF
      rw [if_pos rfl]
      exact g2
    · rw [g3 _ (by omega) (by omega), setF_n hi2]; exact (hW.1 i hi).2.2
theorem b81 {l : Launch} {D : va_G} {cA ad : Nat → Nat} {d : Nat} {σ : AS} {K : Option Value → AS → Prop} {s : PS} {w : WT} {c p : Nat} {r : Nat → Int32} {X : Int} {v4 : Value} (hR : RO σ) (hT : TwM σ s) (hS : TwK s) (hc : sh[c]? = some (1, 205)) (hcx : c = 124 ∨ c = 125) (hp : p < 7) (h0 : r (3 * p) = iI (wa w p)) (hX : r (3 * p + 1) = iI X) (hXb : 0 ≤ X ∧ X ≤ 99) (hwb : 0 ≤ wa w p ∧ wa w p ≤ 99) (hK : K none (sI σ c (if skv s 2 ≤ wa w p then upd r (3 * p + 1) (iI (mn 99 (X + X / 4))) else r))) : Go l D cA ad (d + 1) mX12_breeds 81 [.ref 111, .ref c, .int (iI p), .int (iI (3 * (p : Int))), v4] [] (sI σ c r) K := by
  have hsk := hS.2.2.1 2 (by decide)
  refine go_aload_n dX12_breeds_81 rfl ?_
  refine go_iload_n dX12_breeds_82 rfl ?_
  refine go_iconst (v := iI 0) dX12_breeds_83 (by decide) ?_
  refine go_iadd dX12_breeds_84 ?_
  refine go_iald dX12_breeds_85 hc (by rw [iI_add]; exact vp_iI (by omega)) ?_
  rw [ix3 (3 * p) (by omega), cl_n _ (by omega), sI_same, h0]
  refine go_aload_n dX12_breeds_86 rfl ?_
  refine go_getR fX12_37 dX12_breeds_87 rfl (hR _ _ _ rfl) ?_
  refine go_iconst (v := iI 2) dX12_breeds_90 (by decide) ?_
  refine go_iald dX12_breeds_91 rfl (vp_iI (by decide)) ?_
  rw [cl_2, sI_ne _ _ _ _ (by omega), hT.2.2.1 2 (by decide)]
  refine go_icmp_lt (tgt := 118) dX12_breeds_92 (by decide) (fun h92 => ?_) (fun h92 => ?_)
  · rw [iI_lt (by omega)] at h92
    refine go_vret rfl dX12_breeds_118 ?_
    rw [if_neg (by omega)] at hK
    exact hK
  · rw [iI_lt (by omega)] at h92
    refine go_aload_n dX12_breeds_95 rfl ?_
    refine go_iload_n dX12_breeds_96 rfl ?_
    refine go_iconst (v := iI 1) dX12_breeds_97 (by decide) ?_
    refine go_iadd dX12_breeds_98 ?_
    refine go_bipush (v := iI 99) dX12_breeds_99 (by decide) ?_
    refine go_aload_n dX12_breeds_101 rfl ?_
    refine go_iload_n dX12_breeds_102 rfl ?_
    refine go_iconst (v := iI 1) dX12_breeds_103 (by decide) ?_
    refine go_iadd dX12_breeds_104 ?_
    refine go_iald dX12_breeds_105 hc (by rw [iI_add]; exact vp_iI (by omega)) ?_
    rw [ix3 (3 * p + 1) (by omega), cl_n _ (by omega), sI_same, hX]
    refine go_aload_n dX12_breeds_106 rfl ?_
    refine go_iload_n dX12_breeds_107 rfl ?_
    refine go_iconst (v := iI 1) dX12_breeds_108 (by decide) ?_
    refine go_iadd dX12_breeds_109 ?_
    refine go_iald dX12_breeds_110 hc (by rw [iI_add]; exact vp_iI (by omega)) ?_
    rw [ix3 (3 * p + 1) (by omega), cl_n _ (by omega), sI_same, hX]
    refine go_iconst (v := iI 4) dX12_breeds_111 (by decide) ?_
    refine go_idiv dX12_breeds_112 (by decide) ?_
    rw [iI_div (by omega) (by decide)]
    refine go_iadd dX12_breeds_113 ?_
    rw [iI_add]
    refine go_min wX12_330 dX12_breeds_114 (Nat.le_of_ble_eq_true rfl) ?_
    rw [iI_mn (by omega)]
    refine go_iast dX12_breeds_117 hc (vp_iI (by omega)) ?_
    refine go_vret rfl dX12_breeds_118 ?_
    rw [cl_n _ (by omega), sI_same, sI_sI]
    rw [if_pos (by omega)] at hK
    exact hK

theorem ct_X12_breeds {l : Launch} {D : va_G} {cA ad : Nat → Nat} {d : Nat} {σ : AS} {K : Option Value → AS → Prop} {s : PS} {w : WT} {c p : Nat} (hR : RO σ) (hT : TwM σ s) (hS : TwK s) (hc : sh[c]? = some (1, 205)) (hcx : c = 124 ∨ c = 125) (hW : WM σ c w) (hw : WK s w) (hp : p < nP s) (hK : ∀ r, WR r (livF s p w) → (∀ j, 24 ≤ j → r j = σ.1 c j) → K none (sI σ c r)) : Call l D cA ad (d + 1) mX12_breeds [.ref 111, .ref c, .int (iI p)] σ K := by
  have hp7 : p < 7 := by have := hS.1; omega
  have h7 := wk7 hS hw p
  have hmx := mx_or 0 (ca w p - 2 * pk w p)
  refine call_go (by decide) (Nat.le_of_ble_eq_true rfl) (show Go l D cA ad (d + 1) mX12_breeds 0 [.ref 111, .ref c, .int (iI p), .null, .null] [] σ K from ?_)
  refine go_iconst (v := iI 3) dX12_breeds_0 (by decide) ?_
  refine go_iload_n dX12_breeds_1 rfl ?_
  refine go_imul dX12_breeds_2 ?_
  rw [iI_mul]
  refine go_istore_n dX12_breeds_3 (Nat.le_of_ble_eq_true rfl) rfl ?_
  refine go_aload_n dX12_breeds_4 rfl ?_
  refine go_iload_n dX12_breeds_5 rfl ?_
  refine go_iconst (v := iI 0) dX12_breeds_6 (by decide) ?_
  refine go_iadd dX12_breeds_7 ?_
  refine go_iald dX12_breeds_8 hc (by rw [iI_add]; exact vp_iI (by omega)) ?_
  rw [ix3 (3 * p) (by omega), cl_n _ (by omega), (hW.1 p hp7).1]
  refine go_if_ne (tgt := 25) dX12_breeds_9 (by decide) (fun h9 => ?_) (fun h9 => ?_)
  · rw [iI_eq0 (by omega)] at h9
    refine go_aload_n dX12_breeds_25 rfl ?_
    refine go_iload_n dX12_breeds_26 rfl ?_
    refine go_iconst (v := iI 1) dX12_breeds_27 (by decide) ?_
    refine go_iadd dX12_breeds_28 ?_
    refine go_iald dX12_breeds_29 hc (by rw [iI_add]; exact vp_iI (by omega)) ?_
    rw [ix3 (3 * p + 1) (by omega), cl_n _ (by omega), (hW.1 p hp7).2.1]
    refine go_aload_n dX12_breeds_30 rfl ?_
    refine go_iload_n dX12_breeds_31 rfl ?_
    refine go_iconst (v := iI 2) dX12_breeds_32 (by decide) ?_
    refine go_iadd dX12_breeds_33 ?_
    refine go_iald dX12_breeds_34 hc (by rw [iI_add]; exact vp_iI (by omega)) ?_
    rw [ix3 (3 * p + 2) (by omega), cl_n _ (by omega), (hW.1 p hp7).2.2]
    refine go_icmp_ge (tgt := 42) dX12_breeds_35 (by decide) (fun h35 => ?_) (fun h35 => ?_)
    · rw [iI_le (by omega)] at h35
      refine go_iconst (v := iI 0) dX12_breeds_42 (by decide) ?_
      refine go_istore dX12_breeds_43 (Nat.le_of_ble_eq_true rfl) rfl ?_
      refine go_aload_n dX12_breeds_45 rfl ?_
      refine go_iload_n dX12_breeds_46 rfl ?_
      refine go_iconst (v := iI 1) dX12_breeds_47 (by decide) ?_
      refine go_iadd dX12_breeds_48 ?_
      refine go_iconst (v := iI 0) dX12_breeds_49 (by decide) ?_
      refine go_aload_n dX12_breeds_50 rfl ?_
      refine go_iload_n dX12_breeds_51 rfl ?_
      refine go_iconst (v := iI 1) dX12_breeds_52 (by decide) ?_
      refine go_iadd dX12_breeds_53 ?_
      refine go_iald dX12_breeds_54 hc (by rw [iI_add]; exact vp_iI (by omega)) ?_
      rw [ix3 (3 * p + 1) (by omega), cl_n _ (by omega), (hW.1 p hp7).2.1]
      refine go_iconst (v := iI 2) dX12_breeds_55 (by decide) ?_
      refine go_aload_n dX12_breeds_56 rfl ?_
      refine go_iload_n dX12_breeds_57 rfl ?_
      refine go_iconst (v := iI 2) dX12_breeds_58 (by decide) ?_
      refine go_iadd dX12_breeds_59 ?_
      refine go_iald dX12_breeds_60 hc (by rw [iI_add]; exact vp_iI (by omega)) ?_
      rw [ix3 (3 * p + 2) (by omega), cl_n _ (by omega), (hW.1 p hp7).2.2]
      refine go_imul dX12_breeds_61 ?_
      refine go_isub dX12_breeds_62 ?_
      refine go_max wX12_328 dX12_breeds_63 (Nat.le_of_ble_eq_true rfl) ?_
      rw [iI_mul, iI_sub, iI_mx (by omega)]
      refine go_iast dX12_breeds_66 hc (vp_iI (by omega)) ?_
      rw [cl_n _ (by omega)]
      refine go_iload dX12_breeds_67 rfl ?_
      refine go_if_eq (tgt := 81) dX12_breeds_69 (by decide) (fun h69 => ?_) (fun h69 => ?_)
      · have hq := WR_live (s := s) (g := upd (σ.1 c) (3 * p + 1) (iI (mx 0 (ca w p - 2 * pk w p)))) hp7 (WM_R.mp hW) h9 rfl (Or.inl ⟨by omega, rfl⟩)
        exact b81 (w := w) (X := (mx 0 (ca w p - 2 * pk w p))) hR hT hS hc hcx hp7 (by rw [upd_ne _ _ _ _ (by omega)]; exact (hW.1 p hp7).1) (upd_same _ _ _) (by omega) (by omega) (hK _ hq.1 hq.2)
      · exact absurd h69 (by decide)
    · rw [iI_le (by omega)] at h35
      refine go_iconst (v := iI 1) dX12_breeds_38 (by decide) ?_
      refine go_goto (tgt := 43) dX12_breeds_39 (by decide) ?_
      refine go_istore dX12_breeds_43 (Nat.le_of_ble_eq_true rfl) rfl ?_
      refine go_aload_n dX12_breeds_45 rfl ?_
      refine go_iload_n dX12_breeds_46 rfl ?_
      refine go_iconst (v := iI 1) dX12_breeds_47 (by decide) ?_
      refine go_iadd dX12_breeds_48 ?_
      refine go_iconst (v := iI 0) dX12_breeds_49 (by decide) ?_
      refine go_aload_n dX12_breeds_50 rfl ?_
      refine go_iload_n dX12_breeds_51 rfl ?_
      refine go_iconst (v := iI 1) dX12_breeds_52 (by decide) ?_
      refine go_iadd dX12_breeds_53 ?_
      refine go_iald dX12_breeds_54 hc (by rw [iI_add]; exact vp_iI (by omega)) ?_
      rw [ix3 (3 * p + 1) (by omega), cl_n _ (by omega), (hW.1 p hp7).2.1]
      refine go_iconst (v := iI 2) dX12_breeds_55 (by decide) ?_
      refine go_aload_n dX12_breeds_56 rfl ?_
      refine go_iload_n dX12_breeds_57 rfl ?_
      refine go_iconst (v := iI 2) dX12_breeds_58 (by decide) ?_
      refine go_iadd dX12_breeds_59 ?_
      refine go_iald dX12_breeds_60 hc (by rw [iI_add]; exact vp_iI (by omega)) ?_
      rw [ix3 (3 * p + 2) (by omega), cl_n _ (by omega), (hW.1 p hp7).2.2]
      refine go_imul dX12_breeds_61 ?_
      refine go_isub dX12_breeds_62 ?_
      refine go_max wX12_328 dX12_breeds_63 (Nat.le_of_ble_eq_true rfl) ?_
      rw [iI_mul, iI_sub, iI_mx (by omega)]
      refine go_iast dX12_breeds_66 hc (vp_iI (by omega)) ?_
      rw [cl_n _ (by omega)]
      refine go_iload dX12_breeds_67 rfl ?_
      refine go_if_eq (tgt := 81) dX12_breeds_69 (by decide) (fun h69 => ?_) (fun h69 => ?_)
      · exact absurd h69 (by decide)
      · refine go_aload_n dX12_breeds_72 rfl ?_
        refine go_iload_n dX12_breeds_73 rfl ?_
        refine go_iconst (v := iI 2) dX12_breeds_74 (by decide) ?_
        refine go_iadd dX12_breeds_75 ?_
        refine go_dup2 dX12_breeds_76 rfl rfl ?_
        refine go_iald dX12_breeds_77 hc (by rw [iI_add]; exact vp_iI (by omega)) ?_
        rw [ix3 (3 * p + 2) (by omega), cl_n _ (by omega), sI_same, upd_ne _ _ _ _ (by omega), (hW.1 p hp7).2.2]
        refine go_iconst (v := iI 1) dX12_breeds_78 (by decide) ?_
        refine go_isub dX12_breeds_79 ?_
        rw [iI_sub]
        refine go_iast dX12_breeds_80 hc (vp_iI (by omega)) ?_
        rw [cl_n _ (by omega), sI_same, sI_sI]
        have hq := WR_live (s := s) (g := upd (upd (σ.1 c) (3 * p + 1) (iI (mx 0 (ca w p - 2 * pk w p)))) (3 * p + 2) (iI (pk w p - 1))) hp7 (WM_R.mp hW) h9 rfl (Or.inr ⟨by omega, rfl⟩)
        exact b81 (w := w) (X := (mx 0 (ca w p - 2 * pk w p))) hR hT hS hc hcx hp7 (by rw [upd_ne _ _ _ _ (by omega), upd_ne _ _ _ _ (by omega)]; exact (hW.1 p hp7).1) (by rw [upd_ne _ _ _ _ (by omega)]; exact upd_same _ _ _) (by omega) (by omega) (hK _ hq.1 hq.2)
  · rw [iI_eq0 (by omega)] at h9
    refine go_aload_n dX12_breeds_12 rfl ?_
    refine go_iload_n dX12_breeds_13 rfl ?_
    refine go_iconst (v := iI 1) dX12_breeds_14 (by decide) ?_
    refine go_iadd dX12_breeds_15 ?_
    refine go_iconst (v := iI 0) dX12_breeds_16 (by decide) ?_
    refine go_iast dX12_breeds_17 hc (by rw [iI_add]; exact vp_iI (by omega)) ?_
    rw [ix3 (3 * p + 1) (by omega), cl_n _ (by omega)]
    refine go_aload_n dX12_breeds_18 rfl ?_
    refine go_iload_n dX12_breeds_19 rfl ?_
    refine go_iconst (v := iI 2) dX12_breeds_20 (by decide) ?_
    refine go_iadd dX12_breeds_21 ?_
    refine go_iconst (v := iI 0) dX12_breeds_22 (by decide) ?_
    refine go_iast dX12_breeds_23 hc (by rw [iI_add]; exact vp_iI (by omega)) ?_
    rw [ix3 (3 * p + 2) (by omega), cl_n _ (by omega), sI_same, sI_sI]
    refine go_vret rfl dX12_breeds_24 ?_
    refine hK _ ?_ (fun j hj => by rw [upd_ne _ _ _ _ (by omega), upd_ne _ _ _ _ (by omega)])
    unfold livF
    rw [if_pos h9]
    refine WR_12 hW (fun i hi => ?_) (fun i hi => set3 (k := 2) (r := upd (σ.1 c) (3 * p + 1) (iI 0)) (fun i hi => by rw [upd_ne _ _ _ _ (by omega)]; exact (hW.1 i hi).2.2) hi) (fun j hj => by have := hj p hp7; rw [upd_ne _ _ _ _ this.2, upd_ne _ _ _ _ this.1])
    rw [upd_ne _ _ _ _ (by omega)]
    exact set3 (k := 1) (fun i hi => (hW.1 i hi).2.1) hi

theorem mb4 {l : Launch} {D : va_G} {cA ad : Nat → Nat} {d : Nat} {σ : AS} {K : Option Value → AS → Prop} {s : PS} {w : WT} {c : Nat} (hR : RO σ) (hT : TwM σ s) (hS : TwK s) (hc : sh[c]? = some (1, 205)) (hW : WM σ c w) (hw : WK s w) (hK : K (some (.int (iI (barF s w)))) σ) : ∀ i, i ≤ nP s → Go l D cA ad (d + 1) mX12_bareIn 4 [.ref 111, .ref c, .int (iI (btF (barP s w) i : Nat)), .int (iI i)] [] σ K := by
  have hP7 := hS.1
  refine up_loop ?_ (fun i hi ih => ?_)
  · refine go_iload_n dX12_bareIn_4 rfl ?_
    refine go_aload_n dX12_bareIn_5 rfl ?_
    refine go_getI fX12_294 dX12_bareIn_6 rfl ?_
    refine go_icmp_ge (tgt := 42) dX12_bareIn_9 (by decide) (fun h9 => ?_) (fun h9 => ?_)
    · refine go_iload_n dX12_bareIn_42 rfl ?_
      refine go_iret rfl rfl dX12_bareIn_43 ?_
      exact hK
    · exfalso
      rw [hT.1, iI_le (by omega)] at h9
      omega
  · refine go_iload_n dX12_bareIn_4 rfl ?_
    refine go_aload_n dX12_bareIn_5 rfl ?_
    refine go_getI fX12_294 dX12_bareIn_6 rfl ?_
    refine go_icmp_ge (tgt := 42) dX12_bareIn_9 (by decide) (fun h9 => ?_) (fun h9 => ?_)
    · exfalso
      rw [hT.1, iI_le (by omega)] at h9
      omega
    · have hbl := btF_512 (barP s w) i (by omega)
      have h7 := wk7 hS hw i
      have hpi := hS.2.2.2.1 i hi
      unfold PdK at hpi
      refine go_iload_n dX12_bareIn_12 rfl ?_
      refine go_aload_n dX12_bareIn_13 rfl ?_
      refine go_iload_n dX12_bareIn_14 rfl ?_
      refine go_callS (as := [_, _]) wX12_312 dX12_bareIn_15 rfl rfl (Nat.le_of_ble_eq_true rfl) (ct_X12_water hc hW (by omega) ?_)
      refine go_aload_n dX12_bareIn_18 rfl ?_
      refine go_iload_n dX12_bareIn_19 rfl ?_
      refine go_iconst (v := iI 3) dX12_bareIn_20 (by decide) ?_
      refine go_callV (as := [_, _]) wX12_300 dX12_bareIn_21 rfl rfl rfl rfl (Nat.le_of_ble_eq_true rfl) (ct_X12_told (j := 3) hR hT hS.1 hi (by decide) ?_)
      refine go_icmp_ge (tgt := 33) dX12_bareIn_24 (by decide) (fun h24 => ?_) (fun h24 => ?_)
      · rw [iI_le (by omega)] at h24
        refine go_iconst (v := iI 0) dX12_bareIn_33 (by decide) ?_
        refine go_ior dX12_bareIn_34 ?_
        rw [b_or0]
        rw [btF_f (by unfold barP; exact decide_eq_false (by omega))] at ih
        refine go_istore_n dX12_bareIn_35 (Nat.le_of_ble_eq_true rfl) rfl ?_
        refine go_iincI dX12_bareIn_36 rfl (Nat.le_of_ble_eq_true rfl) rfl ?_
        refine go_goto (tgt := 4) dX12_bareIn_39 (by decide) ?_
        simp only [List.set, iI_add]
        exact ih
      · rw [iI_le (by omega)] at h24
        refine go_iconst (v := iI 1) dX12_bareIn_27 (by decide) ?_
        refine go_iload_n dX12_bareIn_28 rfl ?_
        refine go_ishl dX12_bareIn_29 ?_
        refine go_goto (tgt := 34) dX12_bareIn_30 (by decide) ?_
        refine go_ior dX12_bareIn_34 ?_
        rw [b_or _ hbl i (by omega)]
        rw [btF_t (by unfold barP; exact decide_eq_true (by omega))] at ih
        refine go_istore_n dX12_bareIn_35 (Nat.le_of_ble_eq_true rfl) rfl ?_
        refine go_iincI dX12_bareIn_36 rfl (Nat.le_of_ble_eq_true rfl) rfl ?_
        refine go_goto (tgt := 4) dX12_bareIn_39 (by decide) ?_
        simp only [List.set, iI_add]
        exact ih

theorem ct_X12_bareIn {l : Launch} {D : va_G} {cA ad : Nat → Nat} {d : Nat} {σ : AS} {K : Option Value → AS → Prop} {s : PS} {w : WT} {c : Nat} (hR : RO σ) (hT : TwM σ s) (hS : TwK s) (hc : sh[c]? = some (1, 205)) (hW : WM σ c w) (hw : WK s w) (hK : K (some (.int (iI (barF s w)))) σ) : Call l D cA ad (d + 1) mX12_bareIn [.ref 111, .ref c] σ K := by
  refine call_go (by decide) (Nat.le_of_ble_eq_true rfl) (show Go l D cA ad (d + 1) mX12_bareIn 0 [.ref 111, .ref c, .null, .null] [] σ K from ?_)
  refine go_iconst (v := iI 0) dX12_bareIn_0 (by decide) ?_
  refine go_istore_n dX12_bareIn_1 (Nat.le_of_ble_eq_true rfl) rfl ?_
  refine go_iconst (v := iI 0) dX12_bareIn_2 (by decide) ?_
  refine go_istore_n dX12_bareIn_3 (Nat.le_of_ble_eq_true rfl) rfl ?_
  exact mb4 hR hT hS hc hW hw hK 0 (by omega)

theorem ms5 {l : Launch} {D : va_G} {cA ad : Nat → Nat} {d : Nat} {σ : AS} {K : Option Value → AS → Prop} {s : PS} {c k : Nat} {f : Nat → Int} (hR : RO σ) (hT : TwM σ s) (hS : TwK s) (hc : sh[c]? = some (1, 205)) (hk : k < 3) (hf : ∀ i, i < 7 → σ.1 c (3 * i + k) = iI (f i)) (hK : K (some (.int (iI (suF f (nP s))))) σ) : ∀ i, i ≤ nP s → Go l D cA ad d mX12_sumIn 5 [.ref 111, .ref c, .int (iI k), .int (iI (suF f i)), .int (iI i)] [] σ K := by
  have hP7 := hS.1
  refine up_loop ?_ (fun i hi ih => ?_)
  · refine go_iload dX12_sumIn_5 rfl ?_
    refine go_aload_n dX12_sumIn_7 rfl ?_
    refine go_getI fX12_294 dX12_sumIn_8 rfl ?_
    refine go_icmp_ge (tgt := 31) dX12_sumIn_11 (by decide) (fun h11 => ?_) (fun h11 => ?_)
    · refine go_iload_n dX12_sumIn_31 rfl ?_
      refine go_iret rfl rfl dX12_sumIn_32 ?_
      exact hK
    · exfalso
      rw [hT.1, iI_le (by omega)] at h11
      omega
  · refine go_iload dX12_sumIn_5 rfl ?_
    refine go_aload_n dX12_sumIn_7 rfl ?_
    refine go_getI fX12_294 dX12_sumIn_8 rfl ?_
    refine go_icmp_ge (tgt := 31) dX12_sumIn_11 (by decide) (fun h11 => ?_) (fun h11 => ?_)
    · exfalso
      rw [hT.1, iI_le (by omega)] at h11
      omega
    · refine go_iload_n dX12_sumIn_14 rfl ?_
      refine go_aload_n dX12_sumIn_15 rfl ?_
      refine go_iconst (v := iI 3) dX12_sumIn_16 (by decide) ?_
      refine go_iload dX12_sumIn_17 rfl ?_
      refine go_imul dX12_sumIn_19 ?_
      refine go_iload_n dX12_sumIn_20 rfl ?_
      refine go_iadd dX12_sumIn_21 ?_
      refine go_iald dX12_sumIn_22 hc (by rw [iI_mul, iI_add]; exact vp_iI (by omega)) ?_
      rw [iI_mul, iI_add, iI_cl (by omega), show (3 * (i : Int) + (k : Int)).toNat = 3 * i + k by omega, hf i (by omega)]
      refine go_iadd dX12_sumIn_23 ?_
      rw [iI_add]
      refine go_istore_n dX12_sumIn_24 (Nat.le_of_ble_eq_true rfl) rfl ?_
      refine go_iincI dX12_sumIn_25 rfl (Nat.le_of_ble_eq_true rfl) rfl ?_
      refine go_goto (tgt := 5) dX12_sumIn_28 (by decide) ?_
      simp only [List.set, iI_add]
      exact ih

theorem ct_X12_sumIn {l : Launch} {D : va_G} {cA ad : Nat → Nat} {d : Nat} {σ : AS} {K : Option Value → AS → Prop} {s : PS} {c k : Nat} {f : Nat → Int} (hR : RO σ) (hT : TwM σ s) (hS : TwK s) (hc : sh[c]? = some (1, 205)) (hk : k < 3) (hf : ∀ i, i < 7 → σ.1 c (3 * i + k) = iI (f i)) (hK : K (some (.int (iI (suF f (nP s))))) σ) : Call l D cA ad d mX12_sumIn [.ref 111, .ref c, .int (iI k)] σ K := by
  refine call_go (by decide) (Nat.le_of_ble_eq_true rfl) (show Go l D cA ad d mX12_sumIn 0 [.ref 111, .ref c, .int (iI k), .null, .null] [] σ K from ?_)
  refine go_iconst (v := iI 0) dX12_sumIn_0 (by decide) ?_
  refine go_istore_n dX12_sumIn_1 (Nat.le_of_ble_eq_true rfl) rfl ?_
  refine go_iconst (v := iI 0) dX12_sumIn_2 (by decide) ?_
  refine go_istore dX12_sumIn_3 (Nat.le_of_ble_eq_true rfl) rfl ?_
  exact ms5 hR hT hS hc hk hf hK 0 (by omega)

