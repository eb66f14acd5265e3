/-! cut -/
def hwF (s : PS) (w : WT) (n g : Nat) : Nat → Int × Int
  | 0 => (0, 0)
  | i + 1 => if g / 2 ^ i % 2 = 1 then ((hwF s w n g i).1 + (wa w i + (n : Int) * skv s 0), (hwF s w n g i).2 + ((n : Int) * (skv s 1 + pd s i 4) + pd s i 3)) else hwF s w n g i
def cqF (s : PS) (n g : Nat) : Nat → Int
  | 0 => 0
  | k + 1 => if g / 2 ^ pe s k 0 % 2 = g / 2 ^ pe s k 1 % 2 then cqF s n g k else cqF s n g k + (n : Int) * pp s k 2
def lackB (X : XS) (n g : Nat) : Bool := decide ((hwF (xs X) (xw X) n g (nP (xs X))).1 + cqF (xs X) n g (nQ (xs X)) < (hwF (xs X) (xw X) n g (nP (xs X))).2)
theorem mul9 {n : Nat} {a b : Int} (hn : n ≤ 9) (h0 : 0 ≤ a) (h1 : a ≤ b) : 0 ≤ (n : Int) * a ∧ (n : Int) * a ≤ 9 * b := by
  refine ⟨Int.mul_nonneg (by omega) h0, ?_⟩
  exact Int.mul_le_mul (by omega) h1 h0 (by decide)
theorem hwF_bd {s : PS} {w : WT} (hS : TwK s) (hw : WK s w) {n g : Nat} (hn : n ≤ 9) : ∀ i, i ≤ nP s → (0 ≤ (hwF s w n g i).1 ∧ (hwF s w n g i).1 ≤ 300 * i) ∧ 0 ≤ (hwF s w n g i).2 ∧ (hwF s w n g i).2 ≤ 300 * i
  | 0, _ => by unfold hwF; dsimp only; omega
  | i + 1, h => by
    have ih := hwF_bd hS hw (g := g) hn i (by omega)
    have h7 := wk7 hS hw i
    have hpi := hS.2.2.2.1 i (by omega)
    unfold PdK at hpi
    have s0 := hS.2.2.1 0 (by decide)
    have s1 := hS.2.2.1 1 (by decide)
    have m0 := mul9 hn s0.1 s0.2
    have m1 := mul9 (a := skv s 1 + pd s i 4) (b := 18) hn (by omega) (by omega)
    unfold hwF
    split
    · dsimp only; omega
    · omega
theorem cqF_bd {s : PS} (hS : TwK s) {n g : Nat} (hn : n ≤ 9) : ∀ i, i ≤ nQ s → 0 ≤ cqF s n g i ∧ cqF s n g i ≤ 100 * i
  | 0, _ => by unfold cqF; omega
  | i + 1, h => by
    have ih := cqF_bd hS (g := g) hn i (by omega)
    have hk := hS.2.2.2.2 i (by omega)
    unfold PpK at hk
    have m0 := mul9 (a := pp s i 2) (b := 9) hn (by omega) (by omega)
    unfold cqF
    split <;> omega
theorem lack_0 (X : XS) (n : Nat) : lackB X n 0 = false := by
  have h1 : ∀ i, hwF (xs X) (xw X) n 0 i = (0, 0) := by
    intro i
    induction i with
    | zero => rfl
    | succ i ih => unfold hwF; rw [if_neg (by rw [Nat.zero_div]; decide)]; exact ih
  have h2 : ∀ i, cqF (xs X) n 0 i = 0 := by
    intro i
    induction i with
    | zero => rfl
    | succ i ih => unfold cqF; rw [if_pos (by rw [Nat.zero_div, Nat.zero_div])]; exact ih
  unfold lackB
  rw [h1, h2]
  rfl
def cutA (X : XS) (n : Int) : Int := if 0 < nP (xs X) ∧ 1 ≤ n ∧ n ≤ 9 then obI (mnS (lackB X n.toNat) (2 ^ nP (xs X))) else -1
theorem lk105 {l : Launch} {D : va_G} {cA ad : Nat → Nat} {d : Nat} {σ : AS} {K : Option Value → AS → Prop} {s : PS} {g n : Nat} {H W : Int} (hR : RO σ) (hT : TwC σ s) (hS : TwK s) (hg : g < 512) (hn : n ≤ 9) (hH : 0 ≤ H ∧ H ≤ 100000) (hW : 0 ≤ W ∧ W ≤ 100000) (hK : K (some (.int (if H + cqF s n g (nQ s) < W then iI 1 else iI 0))) σ) : ∀ i : Nat, i ≤ nQ s → ∀ v6 v7 : Value, Go l D cA ad d mX6_lacks 105 [.ref 105, .int (iI (g : Nat)), .int (iI (n : Nat)), .int (iI (H + cqF s n g i)), .int (iI W), .int (iI i), v6, v7] [] σ K := by
  have hP7 := hS.1
  have hQ9 := hS.2.1
  refine up_loop (P := fun i : Nat => ∀ v6 v7 : Value, Go l D cA ad d mX6_lacks 105 [.ref 105, .int (iI (g : Nat)), .int (iI (n : Nat)), .int (iI (H + cqF s n g i)), .int (iI W), .int (iI i), v6, v7] [] σ K) (fun v6 v7 => ?_) (fun i hi ih v6 v7 => ?_)
  · refine go_iload dX6_lacks_105 rfl ?_
    refine go_aload_n dX6_lacks_107 rfl ?_
    refine go_getR fX6_22 dX6_lacks_108 rfl (hR _ _ _ rfl) ?_
    refine go_getI fX6_98 dX6_lacks_111 rfl ?_
    refine go_icmp_ge (tgt := 183) dX6_lacks_114 (by decide) (fun h114 => ?_) (fun h114 => ?_)
    · refine go_iload_n dX6_lacks_183 rfl ?_
      refine go_iload dX6_lacks_184 rfl ?_
      refine go_icmp_ge (tgt := 193) dX6_lacks_186 (by decide) (fun h186 => ?_) (fun h186 => ?_)
      · rw [iI_le (by have := cqF_bd hS (g := g) hn (nQ s) (Nat.le_refl _); omega)] at h186
        refine go_iconst (v := iI 0) dX6_lacks_193 (by decide) ?_
        refine go_iret rfl rfl dX6_lacks_194 ?_
        rw [if_neg (by omega)] at hK
        exact hK
      · rw [iI_le (by have := cqF_bd hS (g := g) hn (nQ s) (Nat.le_refl _); omega)] at h186
        refine go_iconst (v := iI 1) dX6_lacks_189 (by decide) ?_
        refine go_goto (tgt := 194) dX6_lacks_190 (by decide) ?_
        refine go_iret rfl rfl dX6_lacks_194 ?_
        rw [if_pos (by omega)] at hK
        exact hK
    · exfalso
      rw [hT.2.1, iI_le (by omega)] at h114
      omega
  · refine go_iload dX6_lacks_105 rfl ?_
    refine go_aload_n dX6_lacks_107 rfl ?_
    refine go_getR fX6_22 dX6_lacks_108 rfl (hR _ _ _ rfl) ?_
    refine go_getI fX6_98 dX6_lacks_111 rfl ?_
    refine go_icmp_ge (tgt := 183) dX6_lacks_114 (by decide) (fun h114 => ?_) (fun h114 => ?_)
    · exfalso
      rw [hT.2.1, iI_le (by omega)] at h114
      omega
    · have hpe := pe_ok hS hi
      have b1 := bit_01 g (pe s i 0)
      have b2 := bit_01 g (pe s i 1)
      refine go_iload_n dX6_lacks_117 rfl ?_
      refine go_aload_n dX6_lacks_118 rfl ?_
      refine go_getR fX6_22 dX6_lacks_119 rfl (hR _ _ _ rfl) ?_
      refine go_getR fX6_125 dX6_lacks_122 rfl (hR _ _ _ rfl) ?_
      refine go_iload dX6_lacks_125 rfl ?_
      refine go_aald dX6_lacks_127 rfl (by decide) (vp_iI (by omega)) (by rw [cl_n _ (by omega)]; exact hR _ _ _ (r33 _ (by omega)).2.2.1) ?_
      refine go_iconst (v := iI 0) dX6_lacks_128 (by decide) ?_
      refine go_iald dX6_lacks_129 (r33 i (by omega)).2.2.2 (vp_iI (by decide)) ?_
      rw [cl_0, hT.2.2.2.2 i 0 hi (by decide), hpe.1]
      refine go_ishr dX6_lacks_130 ?_
      refine go_iconst (v := iI 1) dX6_lacks_131 (by decide) ?_
      refine go_iand dX6_lacks_132 ?_
      rw [b_get _ hg _ (by omega)]
      refine go_istore dX6_lacks_133 (Nat.le_of_ble_eq_true rfl) rfl ?_
      refine go_iload_n dX6_lacks_135 rfl ?_
      refine go_aload_n dX6_lacks_136 rfl ?_
      refine go_getR fX6_22 dX6_lacks_137 rfl (hR _ _ _ rfl) ?_
      refine go_getR fX6_125 dX6_lacks_140 rfl (hR _ _ _ rfl) ?_
      refine go_iload dX6_lacks_143 rfl ?_
      refine go_aald dX6_lacks_145 rfl (by decide) (vp_iI (by omega)) (by rw [cl_n _ (by omega)]; exact hR _ _ _ (r33 _ (by omega)).2.2.1) ?_
      refine go_iconst (v := iI 1) dX6_lacks_146 (by decide) ?_
      refine go_iald dX6_lacks_147 (r33 i (by omega)).2.2.2 (vp_iI (by decide)) ?_
      rw [cl_1, hT.2.2.2.2 i 1 hi (by decide), hpe.2.1]
      refine go_ishr dX6_lacks_148 ?_
      refine go_iconst (v := iI 1) dX6_lacks_149 (by decide) ?_
      refine go_iand dX6_lacks_150 ?_
      rw [b_get _ hg _ (by omega)]
      refine go_istore dX6_lacks_151 (Nat.le_of_ble_eq_true rfl) rfl ?_
      refine go_iload dX6_lacks_153 rfl ?_
      refine go_iload dX6_lacks_155 rfl ?_
      refine go_icmp_eq (tgt := 177) dX6_lacks_157 (by decide) (fun h157 => ?_) (fun h157 => ?_)
      · rw [iI_eq (by omega)] at h157
        refine go_iincI dX6_lacks_177 rfl (Nat.le_of_ble_eq_true rfl) rfl ?_
        refine go_goto (tgt := 105) dX6_lacks_180 (by decide) ?_
        simp only [List.set, iI_add]
        have e : cqF s n g (i + 1) = cqF s n g i := if_pos (by omega)
        rw [e] at ih
        exact ih _ _
      · rw [iI_eq (by omega)] at h157
        refine go_iload_n dX6_lacks_160 rfl ?_
        refine go_iload_n dX6_lacks_161 rfl ?_
        refine go_aload_n dX6_lacks_162 rfl ?_
        refine go_getR fX6_22 dX6_lacks_163 rfl (hR _ _ _ rfl) ?_
        refine go_getR fX6_125 dX6_lacks_166 rfl (hR _ _ _ rfl) ?_
        refine go_iload dX6_lacks_169 rfl ?_
        refine go_aald dX6_lacks_171 rfl (by decide) (vp_iI (by omega)) (by rw [cl_n _ (by omega)]; exact hR _ _ _ (r33 _ (by omega)).2.2.1) ?_
        refine go_iconst (v := iI 2) dX6_lacks_172 (by decide) ?_
        refine go_iald dX6_lacks_173 (r33 i (by omega)).2.2.2 (vp_iI (by decide)) ?_
        rw [cl_2, hT.2.2.2.2 i 2 hi (by decide)]
        refine go_imul dX6_lacks_174 ?_
        rw [iI_mul]
        refine go_iadd dX6_lacks_175 ?_
        rw [iI_add]
        refine go_istore_n dX6_lacks_176 (Nat.le_of_ble_eq_true rfl) rfl ?_
        refine go_iincI dX6_lacks_177 rfl (Nat.le_of_ble_eq_true rfl) rfl ?_
        refine go_goto (tgt := 105) dX6_lacks_180 (by decide) ?_
        simp only [List.set, iI_add]
        have e : cqF s n g (i + 1) = cqF s n g i + (n : Int) * pp s i 2 := if_neg (by omega)
        rw [e, ← Int.add_assoc] at ih
        exact ih _ _

theorem lk8 {l : Launch} {D : va_G} {cA ad : Nat → Nat} {d : Nat} {σ : AS} {K : Option Value → AS → Prop} {s : PS} {w : WT} {g n : Nat} (hR : RO σ) (hT : TwC σ s) (hS : TwK s) (hW : WC σ 87 w) (hw : WK s w) (hg : g < 512) (hn : n ≤ 9) (hK : K (some (.int (if (hwF s w n g (nP s)).1 + cqF s n g (nQ s) < (hwF s w n g (nP s)).2 then iI 1 else iI 0))) σ) : ∀ i : Nat, i ≤ nP s → ∀ v6 v7 : Value, Go l D cA ad d mX6_lacks 8 [.ref 105, .int (iI (g : Nat)), .int (iI (n : Nat)), .int (iI (hwF s w n g i).1), .int (iI (hwF s w n g i).2), .int (iI i), v6, v7] [] σ K := by
  have hP7 := hS.1
  have hQ9 := hS.2.1
  refine up_loop (P := fun i : Nat => ∀ v6 v7 : Value, Go l D cA ad d mX6_lacks 8 [.ref 105, .int (iI (g : Nat)), .int (iI (n : Nat)), .int (iI (hwF s w n g i).1), .int (iI (hwF s w n g i).2), .int (iI i), v6, v7] [] σ K) (fun v6 v7 => ?_) (fun i hi ih v6 v7 => ?_)
  · refine go_iload dX6_lacks_8 rfl ?_
    refine go_aload_n dX6_lacks_10 rfl ?_
    refine go_getR fX6_22 dX6_lacks_11 rfl (hR _ _ _ rfl) ?_
    refine go_getI fX6_119 dX6_lacks_14 rfl ?_
    refine go_icmp_ge (tgt := 102) dX6_lacks_17 (by decide) (fun h17 => ?_) (fun h17 => ?_)
    · refine go_iconst (v := iI 0) dX6_lacks_102 (by decide) ?_
      refine go_istore dX6_lacks_103 (Nat.le_of_ble_eq_true rfl) rfl ?_
      simp only [List.set]
      have hbd := hwF_bd hS hw (g := g) hn (nP s) (Nat.le_refl _)
      have h9 := lk105 (l := l) (D := D) (cA := cA) (ad := ad) (d := d) hR hT hS hg hn (by omega) (by omega) hK 0 (by omega) v6 v7
      rw [show (hwF s w n g (nP s)).1 + cqF s n g 0 = (hwF s w n g (nP s)).1 from Int.add_zero _] at h9
      exact h9
    · exfalso
      rw [hT.1, iI_le (by omega)] at h17
      omega
  · refine go_iload dX6_lacks_8 rfl ?_
    refine go_aload_n dX6_lacks_10 rfl ?_
    refine go_getR fX6_22 dX6_lacks_11 rfl (hR _ _ _ rfl) ?_
    refine go_getI fX6_119 dX6_lacks_14 rfl ?_
    refine go_icmp_ge (tgt := 102) dX6_lacks_17 (by decide) (fun h17 => ?_) (fun h17 => ?_)
    · exfalso
      rw [hT.1, iI_le (by omega)] at h17
      omega
    · have b1 := bit_01 g i
      refine go_iload_n dX6_lacks_20 rfl ?_
      refine go_iload dX6_lacks_21 rfl ?_
      refine go_ishr dX6_lacks_23 ?_
      refine go_iconst (v := iI 1) dX6_lacks_24 (by decide) ?_
      refine go_iand dX6_lacks_25 ?_
      rw [b_get _ hg i (by omega)]
      refine go_if_eq (tgt := 96) dX6_lacks_26 (by decide) (fun h26 => ?_) (fun h26 => ?_)
      · rw [iI_eq0 (by omega)] at h26
        refine go_iincI dX6_lacks_96 rfl (Nat.le_of_ble_eq_true rfl) rfl ?_
        refine go_goto (tgt := 8) dX6_lacks_99 (by decide) ?_
        simp only [List.set, iI_add]
        have e : hwF s w n g (i + 1) = hwF s w n g i := if_neg (by omega)
        rw [e] at ih
        exact ih _ _
      · rw [iI_eq0 (by omega)] at h26
        refine go_iload_n dX6_lacks_29 rfl ?_
        refine go_aload_n dX6_lacks_30 rfl ?_
        refine go_getR fX6_30 dX6_lacks_31 rfl (hR _ _ _ rfl) ?_
        refine go_getR fX6_73 dX6_lacks_34 rfl (hR _ _ _ rfl) ?_
        refine go_iload dX6_lacks_37 rfl ?_
        refine go_iald dX6_lacks_39 rfl (vp_iI (by omega)) ?_
        rw [cl_n _ (by omega), (hW.1 i (by omega)).1]
        refine go_iload_n dX6_lacks_40 rfl ?_
        refine go_aload_n dX6_lacks_41 rfl ?_
        refine go_getR fX6_22 dX6_lacks_42 rfl (hR _ _ _ rfl) ?_
        refine go_getR fX6_41 dX6_lacks_45 rfl (hR _ _ _ rfl) ?_
        refine go_iconst (v := iI 0) dX6_lacks_48 (by decide) ?_
        refine go_iald dX6_lacks_49 rfl (vp_iI (by decide)) ?_
        rw [cl_0, hT.2.2.1 0 (by decide)]
        refine go_imul dX6_lacks_50 ?_
        refine go_iadd dX6_lacks_51 ?_
        refine go_iadd dX6_lacks_52 ?_
        rw [iI_mul, iI_add, iI_add]
        refine go_istore_n dX6_lacks_53 (Nat.le_of_ble_eq_true rfl) rfl ?_
        refine go_iload dX6_lacks_54 rfl ?_
        refine go_iload_n dX6_lacks_56 rfl ?_
        refine go_aload_n dX6_lacks_57 rfl ?_
        refine go_getR fX6_22 dX6_lacks_58 rfl (hR _ _ _ rfl) ?_
        refine go_getR fX6_41 dX6_lacks_61 rfl (hR _ _ _ rfl) ?_
        refine go_iconst (v := iI 1) dX6_lacks_64 (by decide) ?_
        refine go_iald dX6_lacks_65 rfl (vp_iI (by decide)) ?_
        rw [cl_1, hT.2.2.1 1 (by decide)]
        refine go_aload_n dX6_lacks_66 rfl ?_
        refine go_getR fX6_22 dX6_lacks_67 rfl (hR _ _ _ rfl) ?_
        refine go_getR fX6_69 dX6_lacks_70 rfl (hR _ _ _ rfl) ?_
        refine go_iload dX6_lacks_73 rfl ?_
        refine go_aald dX6_lacks_75 rfl (by decide) (vp_iI (by omega)) (by rw [cl_n _ (by omega)]; exact hR _ _ _ (r25 _ (by omega)).2.2.1) ?_
        refine go_iconst (v := iI 4) dX6_lacks_76 (by decide) ?_
        refine go_iald dX6_lacks_77 (r25 i (by omega)).2.2.2 (vp_iI (by decide)) ?_
        rw [cl_4, hT.2.2.2.1 i 4 hi (by decide)]
        refine go_iadd dX6_lacks_78 ?_
        refine go_imul dX6_lacks_79 ?_
        rw [iI_add, iI_mul]
        refine go_aload_n dX6_lacks_80 rfl ?_
        refine go_getR fX6_22 dX6_lacks_81 rfl (hR _ _ _ rfl) ?_
        refine go_getR fX6_69 dX6_lacks_84 rfl (hR _ _ _ rfl) ?_
        refine go_iload dX6_lacks_87 rfl ?_
        refine go_aald dX6_lacks_89 rfl (by decide) (vp_iI (by omega)) (by rw [cl_n _ (by omega)]; exact hR _ _ _ (r25 _ (by omega)).2.2.1) ?_
        refine go_iconst (v := iI 3) dX6_lacks_90 (by decide) ?_
        refine go_iald dX6_lacks_91 (r25 i (by omega)).2.2.2 (vp_iI (by decide)) ?_
        rw [cl_3, hT.2.2.2.1 i 3 hi (by decide)]
        refine go_iadd dX6_lacks_92 ?_
        refine go_iadd dX6_lacks_93 ?_
        rw [iI_add, iI_add]
        refine go_istore dX6_lacks_94 (Nat.le_of_ble_eq_true rfl) rfl ?_
        refine go_iincI dX6_lacks_96 rfl (Nat.le_of_ble_eq_true rfl) rfl ?_
        refine go_goto (tgt := 8) dX6_lacks_99 (by decide) ?_
        simp only [List.set, iI_add]
        have e : hwF s w n g (i + 1) = ((hwF s w n g i).1 + (wa w i + (n : Int) * skv s 0), (hwF s w n g i).2 + ((n : Int) * (skv s 1 + pd s i 4) + pd s i 3)) := if_pos (by omega)
        rw [e] at ih
        exact ih _ _

theorem ct_X6_lacks {l : Launch} {D : va_G} {cA ad : Nat → Nat} {d : Nat} {σ : AS} {K : Option Value → AS → Prop} {s : PS} {w : WT} {g n : Nat} (hR : RO σ) (hT : TwC σ s) (hS : TwK s) (hW : WC σ 87 w) (hw : WK s w) (hg : g < 512) (hn : n ≤ 9) (hK : K (some (.int (if (hwF s w n g (nP s)).1 + cqF s n g (nQ s) < (hwF s w n g (nP s)).2 then iI 1 else iI 0))) σ) : Call l D cA ad d mX6_lacks [.ref 105, .int (iI (g : Nat)), .int (iI (n : Nat))] σ K := by
  refine call_go (by decide) (Nat.le_of_ble_eq_true rfl) (show Go l D cA ad d mX6_lacks 0 [.ref 105, .int (iI (g : Nat)), .int (iI (n : Nat)), .null, .null, .null, .null, .null] [] σ K from ?_)
  refine go_iconst (v := iI 0) dX6_lacks_0 (by decide) ?_
  refine go_istore_n dX6_lacks_1 (Nat.le_of_ble_eq_true rfl) rfl ?_
  refine go_iconst (v := iI 0) dX6_lacks_2 (by decide) ?_
  refine go_istore dX6_lacks_3 (Nat.le_of_ble_eq_true rfl) rfl ?_
  refine go_iconst (v := iI 0) dX6_lacks_5 (by decide) ?_
  refine go_istore dX6_lacks_6 (Nat.le_of_ble_eq_true rfl) rfl ?_
  exact lk8 hR hT hS hW hw hg hn hK 0 (by omega) _ _

theorem ft15 {l : Launch} {D : va_G} {cA ad : Nat → Nat} {d : Nat} {σ : AS} {K : Option Value → AS → Prop} {X : XS} {n : Nat} (hR : RO σ) (hK0 : XK X) (hC : CI σ X) (hn : n ≤ 9) (hK : K (some (.int (iI (obI (mnS (lackB X n) (2 ^ nP (xs X))))))) σ) : ∀ i : Nat, i ≤ 2 ^ nP (xs X) → Go l D cA ad (d + 1) mX6_fewestThatLack 15 [.ref 105, .int (iI n), .int (iI (obI (mnS (lackB X n) i))), .int (iI (fwI (nP (xs X)) (mnS (lackB X n) i))), .int (iI i)] [] σ K := by
  have hP7 := hK0.s.1
  have hpw := pw_lt (nP (xs X)) (by omega)
  refine up_loop ?_ (fun i hi ih => ?_)
  · refine go_iload dX6_fewestThatLack_15 rfl ?_
    refine go_iconst (v := iI 1) dX6_fewestThatLack_17 (by decide) ?_
    refine go_aload_n dX6_fewestThatLack_18 rfl ?_
    refine go_getR fX6_22 dX6_fewestThatLack_19 rfl (hR _ _ _ rfl) ?_
    refine go_getI fX6_119 dX6_fewestThatLack_22 rfl ?_
    refine go_ishl dX6_fewestThatLack_25 ?_
    refine go_icmp_ge (tgt := 63) dX6_fewestThatLack_26 (by decide) (fun h26 => ?_) (fun h26 => ?_)
    · refine go_iload_n dX6_fewestThatLack_63 rfl ?_
      refine go_iret rfl rfl dX6_fewestThatLack_64 ?_
      exact hK
    · exfalso
      rw [hC.2.1.1, b_shl9 _ (by omega)] at h26
      generalize 2 ^ nP (xs X) = N at *
      rw [iI_le (by omega)] at h26
      omega
  · refine go_iload dX6_fewestThatLack_15 rfl ?_
    refine go_iconst (v := iI 1) dX6_fewestThatLack_17 (by decide) ?_
    refine go_aload_n dX6_fewestThatLack_18 rfl ?_
    refine go_getR fX6_22 dX6_fewestThatLack_19 rfl (hR _ _ _ rfl) ?_
    refine go_getI fX6_119 dX6_fewestThatLack_22 rfl ?_
    refine go_ishl dX6_fewestThatLack_25 ?_
    refine go_icmp_ge (tgt := 63) dX6_fewestThatLack_26 (by decide) (fun h26 => ?_) (fun h26 => ?_)
    · exfalso
      rw [hC.2.1.1, b_shl9 _ (by omega)] at h26
      generalize 2 ^ nP (xs X) = N at *
      rw [iI_le (by omega)] at h26
      omega
    · have hbd := mnS_bd (P := lackB X n) (i := i) (N := nP (xs X)) (by omega) (by omega)
      have hpc := bc_ok i (by omega)
      have hpl := pop_le i (by omega) (nP (xs X)) (by omega) hi
      refine go_iload dX6_fewestThatLack_29 rfl ?_
      refine go_callS (as := [_]) wX6_101 dX6_fewestThatLack_31 rfl rfl (Nat.le_of_ble_eq_true rfl) (ct_J6_bitCount_0f7a4 (by omega) ?_)
      refine go_iload_n dX6_fewestThatLack_34 rfl ?_
      refine go_icmp_ge (tgt := 57) dX6_fewestThatLack_35 (by decide) (fun h35 => ?_) (fun h35 => ?_)
      · rw [iI_le (by omega)] at h35
        refine go_iincI dX6_fewestThatLack_57 rfl (Nat.le_of_ble_eq_true rfl) rfl ?_
        refine go_goto (tgt := 15) dX6_fewestThatLack_60 (by decide) ?_
        simp only [List.set, iI_add]
        rw [mnS_a (by omega) hpl] at ih
        exact ih
      · rw [iI_le (by omega)] at h35
        refine go_aload_n dX6_fewestThatLack_38 rfl ?_
        refine go_iload dX6_fewestThatLack_39 rfl ?_
        refine go_iload_n dX6_fewestThatLack_41 rfl ?_
        refine go_callV (as := [_, _]) wX6_122 dX6_fewestThatLack_42 rfl rfl rfl rfl (Nat.le_of_ble_eq_true rfl) (ct_X6_lacks hR hC.2.1 hK0.s hC.2.2.1 hK0.w (by omega) hn ?_)
        by_cases hB : (hwF (xs X) (xw X) n i (nP (xs X))).1 + cqF (xs X) n i (nQ (xs X)) < (hwF (xs X) (xw X) n i (nP (xs X))).2
        · rw [if_pos hB]
          refine go_if_eq (tgt := 57) dX6_fewestThatLack_45 (by decide) (fun h45 => ?_) (fun h45 => ?_)
          · exact absurd h45 (by decide)
          · refine go_iload dX6_fewestThatLack_48 rfl ?_
            refine go_istore_n dX6_fewestThatLack_50 (Nat.le_of_ble_eq_true rfl) rfl ?_
            refine go_iload dX6_fewestThatLack_51 rfl ?_
            refine go_callS (as := [_]) wX6_101 dX6_fewestThatLack_53 rfl rfl (Nat.le_of_ble_eq_true rfl) (ct_J6_bitCount_0f7a4 (by omega) ?_)
            refine go_istore_n dX6_fewestThatLack_56 (Nat.le_of_ble_eq_true rfl) rfl ?_
            refine go_iincI dX6_fewestThatLack_57 rfl (Nat.le_of_ble_eq_true rfl) rfl ?_
            refine go_goto (tgt := 15) dX6_fewestThatLack_60 (by decide) ?_
            simp only [List.set, iI_add]
            rw [mnS_c (N := nP (xs X)) (by omega) (show lackB X n i = true from decide_eq_true hB)] at ih
            exact ih
        · rw [if_neg hB]
          refine go_if_eq (tgt := 57) dX6_fewestThatLack_45 (by decide) (fun h45 => ?_) (fun h45 => ?_)
          · refine go_iincI dX6_fewestThatLack_57 rfl (Nat.le_of_ble_eq_true rfl) rfl ?_
            refine go_goto (tgt := 15) dX6_fewestThatLack_60 (by decide) ?_
            simp only [List.set, iI_add]
            rw [mnS_b (show lackB X n i = false from decide_eq_false hB)] at ih
            exact ih
          · exact absurd h45 (by decide)

theorem ct_X6_fewestThatLack {l : Launch} {D : va_G} {cA ad : Nat → Nat} {d : Nat} {σ : AS} {K : Option Value → AS → Prop} {X : XS} {n : Nat} (hR : RO σ) (hK0 : XK X) (hC : CI σ X) (hn : n ≤ 9) (hK : K (some (.int (iI (obI (mnS (lackB X n) (2 ^ nP (xs X))))))) σ) : Call l D cA ad (d + 1) mX6_fewestThatLack [.ref 105, .int (iI n)] σ K := by
  refine call_go (by decide) (Nat.le_of_ble_eq_true rfl) (show Go l D cA ad (d + 1) mX6_fewestThatLack 0 [.ref 105, .int (iI n), .null, .null, .null] [] σ K from ?_)
  refine go_iconst (v := iI (-1)) dX6_fewestThatLack_0 (by decide) ?_
  refine go_istore_n dX6_fewestThatLack_1 (Nat.le_of_ble_eq_true rfl) rfl ?_
  refine go_aload_n dX6_fewestThatLack_2 rfl ?_
  refine go_getR fX6_22 dX6_fewestThatLack_3 rfl (hR _ _ _ rfl) ?_
  refine go_getI fX6_119 dX6_fewestThatLack_6 rfl ?_
  rw [hC.2.1.1]
  refine go_iconst (v := iI 1) dX6_fewestThatLack_9 (by decide) ?_
  refine go_iadd dX6_fewestThatLack_10 ?_
  rw [iI_add]
  refine go_istore_n dX6_fewestThatLack_11 (Nat.le_of_ble_eq_true rfl) rfl ?_
  refine go_iconst (v := iI 1) dX6_fewestThatLack_12 (by decide) ?_
  refine go_istore dX6_fewestThatLack_13 (Nat.le_of_ble_eq_true rfl) rfl ?_
  simp only [List.set]
  have h9 := ft15 (l := l) (D := D) (cA := cA) (ad := ad) (d := d) hR hK0 hC hn hK 1 (Nat.pow_pos (by decide))
  rw [show mnS (lackB X n) 1 = none from mnS_b (lack_0 X n)] at h9
  exact h9

theorem ct_X11_cut {l : Launch} {D : va_G} {cA ad : Nat → Nat} {d : Nat} {σ : AS} {K : Option Value → AS → Prop} {X : XS} {n : Int} (hR : RO σ) (hK0 : XK X) (hC : CI σ X) (hn32 : -2147483648 ≤ n ∧ n < 2147483648) (hK : ∀ τ, QF σ τ → K (some (.int (iI (cutA X n)))) τ) : Call l D cA ad (d + 2) mX11_cut [.ref 0, .int (iI n)] σ K := by
  refine call_go (by decide) (Nat.le_of_ble_eq_true rfl) (show Go l D cA ad (d + 2) mX11_cut 0 [.ref 0, .int (iI n)] [] σ K from ?_)
  refine go_aload_n dX11_cut_0 rfl ?_
  refine go_iload_n dX11_cut_1 rfl ?_
  refine go_callV (as := [_]) wX11_260 dX11_cut_2 rfl rfl rfl rfl (Nat.le_of_ble_eq_true rfl) (ct_X11_isPlannable hR hC.2.1 hK0.s hn32 (fun q hqe h0 h1 h2 => ?_) (fun hx => ?_))
  · refine go_if_eq (tgt := 19) dX11_cut_5 (by decide) (fun h5 => ?_) (fun h5 => ?_)
    · exact absurd h5 (by decide)
    · subst hqe
      refine go_aload_n dX11_cut_8 rfl ?_
      refine go_getR fX11_94 dX11_cut_9 rfl (hR _ _ _ rfl) ?_
      refine go_iload_n dX11_cut_12 rfl ?_
      refine go_callV (as := [_]) wX11_277 dX11_cut_13 rfl rfl rfl rfl (Nat.le_of_ble_eq_true rfl) (ct_X6_fewestThatLack hR hK0 hC h2 ?_)
      refine go_goto (tgt := 20) dX11_cut_16 (by decide) ?_
      refine go_iret rfl rfl dX11_cut_20 ?_
      have e : cutA X q = obI (mnS (lackB X q) (2 ^ nP (xs X))) := by unfold cutA; rw [if_pos (by omega), Int.toNat_natCast]
      have h9 := hK σ QF.rf
      rw [e] at h9
      exact h9
  · refine go_if_eq (tgt := 19) dX11_cut_5 (by decide) (fun h5 => ?_) (fun h5 => ?_)
    · refine go_iconst (v := iI (-1)) dX11_cut_19 (by decide) ?_
      refine go_iret rfl rfl dX11_cut_20 ?_
      have e : cutA X n = -1 := by unfold cutA; rw [if_neg (by omega)]
      have h9 := hK σ QF.rf
      rw [e] at h9
      exact h9
    · exact absurd h5 (by decide)

theorem mc131 {l : Launch} {D : va_G} {cA ad : Nat → Nat} {d : Nat} {σ : AS} {K : Option Value → AS → Prop} {s : PS} {g n : Nat} {H W : Int} {b : Int32} (hR : RO σ) (hT : TwM σ s) (hS : TwK s) (hg : g < 512) (hn : n ≤ 9) (hK : Go l D cA ad (d + 1) mX12_cut 199 [.ref 111, .int (iI (n : Nat)), .int b, .int (iI (g : Nat)), .int (iI (H + cqF s n g (nQ s))), .int (iI W), .int (iI (nQ s : Nat))] [] σ K) : ∀ i : Nat, i ≤ nQ s → Go l D cA ad (d + 1) mX12_cut 131 [.ref 111, .int (iI (n : Nat)), .int b, .int (iI (g : Nat)), .int (iI (H + cqF s n g i)), .int (iI W), .int (iI i)] [] σ K := by
  have hP7 := hS.1
  have hQ9 := hS.2.1
  refine up_loop ?_ (fun i hi ih => ?_)
  · refine go_iload dX12_cut_131 rfl ?_
    refine go_aload_n dX12_cut_133 rfl ?_
    refine go_getI fX12_297 dX12_cut_134 rfl ?_
    refine go_icmp_ge (tgt := 199) dX12_cut_137 (by decide) (fun h137 => ?_) (fun h137 => ?_)
    · exact hK
    · exfalso
      rw [hT.2.1, iI_le (by omega)] at h137
      omega
  · refine go_iload dX12_cut_131 rfl ?_
    refine go_aload_n dX12_cut_133 rfl ?_
    refine go_getI fX12_297 dX12_cut_134 rfl ?_
    refine go_icmp_ge (tgt := 199) dX12_cut_137 (by decide) (fun h137 => ?_) (fun h137 => ?_)
    · exfalso
      rw [hT.2.1, iI_le (by omega)] at h137
      omega
    · have hpe := pe_ok hS hi
      have b1 := bit_01 g (pe s i 0)
      have b2 := bit_01 g (pe s i 1)
      refine go_iload dX12_cut_140 rfl ?_
      refine go_iload_n dX12_cut_142 rfl ?_
      refine go_aload_n dX12_cut_143 rfl ?_
      refine go_getR fX12_49 dX12_cut_144 rfl (hR _ _ _ rfl) ?_
      refine go_iconst (v := iI 5) dX12_cut_147 (by decide) ?_
      refine go_iload dX12_cut_148 rfl ?_
      refine go_imul dX12_cut_150 ?_
      rw [iI_mul]
      refine go_iald dX12_cut_151 rfl (vp_iI (by omega)) ?_
      rw [iI_cl (by omega), show (5 * (i : Int)).toNat = 5 * i + 0 by omega, hT.2.2.2.2 i 0 hi (by decide), hpe.1]
      refine go_callS (as := [_, _]) wX12_229 dX12_cut_152 rfl rfl (Nat.le_of_ble_eq_true rfl) (ct_X12_has hg (by omega) ?_)
      refine go_iload_n dX12_cut_155 rfl ?_
      refine go_aload_n dX12_cut_156 rfl ?_
      refine go_getR fX12_49 dX12_cut_157 rfl (hR _ _ _ rfl) ?_
      refine go_iconst (v := iI 5) dX12_cut_160 (by decide) ?_
      refine go_iload dX12_cut_161 rfl ?_
      refine go_imul dX12_cut_163 ?_
      refine go_iconst (v := iI 1) dX12_cut_164 (by decide) ?_
      refine go_iadd dX12_cut_165 ?_
      rw [iI_mul, iI_add]
      refine go_iald dX12_cut_166 rfl (vp_iI (by omega)) ?_
      rw [iI_cl (by omega), show (5 * (i : Int) + 1).toNat = 5 * i + 1 by omega, hT.2.2.2.2 i 1 hi (by decide), hpe.2.1]
      refine go_callS (as := [_, _]) wX12_229 dX12_cut_167 rfl rfl (Nat.le_of_ble_eq_true rfl) (ct_X12_has hg (by omega) ?_)
      refine go_icmp_eq (tgt := 189) dX12_cut_170 (by decide) (fun h170 => ?_) (fun h170 => ?_)
      · rw [iI_eq (by omega)] at h170
        refine go_iconst (v := iI 0) dX12_cut_189 (by decide) ?_
        refine go_iadd dX12_cut_190 ?_
        refine go_istore dX12_cut_191 (Nat.le_of_ble_eq_true rfl) rfl ?_
        refine go_iincI dX12_cut_193 rfl (Nat.le_of_ble_eq_true rfl) rfl ?_
        refine go_goto (tgt := 131) dX12_cut_196 (by decide) ?_
        simp only [List.set, iI_add, Int.add_zero]
        have e : cqF s n g (i + 1) = cqF s n g i := if_pos (by omega)
        rw [e] at ih
        exact ih
      · rw [iI_eq (by omega)] at h170
        refine go_iload_n dX12_cut_173 rfl ?_
        refine go_aload_n dX12_cut_174 rfl ?_
        refine go_getR fX12_49 dX12_cut_175 rfl (hR _ _ _ rfl) ?_
        refine go_iconst (v := iI 5) dX12_cut_178 (by decide) ?_
        refine go_iload dX12_cut_179 rfl ?_
        refine go_imul dX12_cut_181 ?_
        refine go_iconst (v := iI 2) dX12_cut_182 (by decide) ?_
        refine go_iadd dX12_cut_183 ?_
        rw [iI_mul, iI_add]
        refine go_iald dX12_cut_184 rfl (vp_iI (by omega)) ?_
        rw [iI_cl (by omega), show (5 * (i : Int) + 2).toNat = 5 * i + 2 by omega, hT.2.2.2.2 i 2 hi (by decide)]
        refine go_imul dX12_cut_185 ?_
        rw [iI_mul]
        refine go_goto (tgt := 190) dX12_cut_186 (by decide) ?_
        refine go_iadd dX12_cut_190 ?_
        refine go_istore dX12_cut_191 (Nat.le_of_ble_eq_true rfl) rfl ?_
        refine go_iincI dX12_cut_193 rfl (Nat.le_of_ble_eq_true rfl) rfl ?_
        refine go_goto (tgt := 131) dX12_cut_196 (by decide) ?_
        simp only [List.set, iI_add]
        have e : cqF s n g (i + 1) = cqF s n g i + (n : Int) * pp s i 2 := if_neg (by omega)
        rw [e, ← Int.add_assoc] at ih
        exact ih

theorem mc49 {l : Launch} {D : va_G} {cA ad : Nat → Nat} {d : Nat} {σ : AS} {K : Option Value → AS → Prop} {s : PS} {w : WT} {g n : Nat} {b : Int32} (hR : RO σ) (hT : TwM σ s) (hS : TwK s) (hW : WM σ 124 w) (hw : WK s w) (hg : g < 512) (hn : n ≤ 9) (hK : Go l D cA ad (d + 1) mX12_cut 199 [.ref 111, .int (iI (n : Nat)), .int b, .int (iI (g : Nat)), .int (iI ((hwF s w n g (nP s)).1 + cqF s n g (nQ s))), .int (iI (hwF s w n g (nP s)).2), .int (iI (nQ s : Nat))] [] σ K) : ∀ i : Nat, i ≤ nP s → Go l D cA ad (d + 1) mX12_cut 49 [.ref 111, .int (iI (n : Nat)), .int b, .int (iI (g : Nat)), .int (iI (hwF s w n g i).1), .int (iI (hwF s w n g i).2), .int (iI i)] [] σ K := by
  have hP7 := hS.1
  have hQ9 := hS.2.1
  refine up_loop ?_ (fun i hi ih => ?_)
  · refine go_iload dX12_cut_49 rfl ?_
    refine go_aload_n dX12_cut_51 rfl ?_
    refine go_getI fX12_294 dX12_cut_52 rfl ?_
    refine go_icmp_ge (tgt := 128) dX12_cut_55 (by decide) (fun h55 => ?_) (fun h55 => ?_)
    · refine go_iconst (v := iI 0) dX12_cut_128 (by decide) ?_
      refine go_istore dX12_cut_129 (Nat.le_of_ble_eq_true rfl) rfl ?_
      simp only [List.set]
      have h9 := mc131 (l := l) (D := D) (cA := cA) (ad := ad) (d := d) (W := (hwF s w n g (nP s)).2) (b := b) hR hT hS hg hn hK 0 (by omega)
      rw [show (hwF s w n g (nP s)).1 + cqF s n g 0 = (hwF s w n g (nP s)).1 from Int.add_zero _] at h9
      exact h9
    · exfalso
      rw [hT.1, iI_le (by omega)] at h55
      omega
  · refine go_iload dX12_cut_49 rfl ?_
    refine go_aload_n dX12_cut_51 rfl ?_
    refine go_getI fX12_294 dX12_cut_52 rfl ?_
    refine go_icmp_ge (tgt := 128) dX12_cut_55 (by decide) (fun h55 => ?_) (fun h55 => ?_)
    · exfalso
      rw [hT.1, iI_le (by omega)] at h55
      omega
    · have b1 := bit_01 g i
      refine go_iload_n dX12_cut_58 rfl ?_
      refine go_iload dX12_cut_59 rfl ?_
      refine go_callS (as := [_, _]) wX12_229 dX12_cut_61 rfl rfl (Nat.le_of_ble_eq_true rfl) (ct_X12_has hg (by omega) ?_)
      refine go_if_ne (tgt := 70) dX12_cut_64 (by decide) (fun h64 => ?_) (fun h64 => ?_)
      · rw [iI_eq0 (by omega)] at h64
        refine go_iload dX12_cut_70 rfl ?_
        refine go_aload_n dX12_cut_72 rfl ?_
        refine go_getR fX12_61 dX12_cut_73 rfl (hR _ _ _ rfl) ?_
        refine go_iload dX12_cut_76 rfl ?_
        refine go_callS (as := [_, _]) wX12_312 dX12_cut_78 rfl rfl (Nat.le_of_ble_eq_true rfl) (ct_X12_water rfl hW (by omega) ?_)
        refine go_iload_n dX12_cut_81 rfl ?_
        refine go_aload_n dX12_cut_82 rfl ?_
        refine go_getR fX12_37 dX12_cut_83 rfl (hR _ _ _ rfl) ?_
        refine go_iconst (v := iI 0) dX12_cut_86 (by decide) ?_
        refine go_iald dX12_cut_87 rfl (vp_iI (by decide)) ?_
        rw [cl_0, hT.2.2.1 0 (by decide)]
        refine go_imul dX12_cut_88 ?_
        refine go_iadd dX12_cut_89 ?_
        refine go_iadd dX12_cut_90 ?_
        rw [iI_mul, iI_add, iI_add]
        refine go_istore dX12_cut_91 (Nat.le_of_ble_eq_true rfl) rfl ?_
        refine go_iload dX12_cut_93 rfl ?_
        refine go_iload_n dX12_cut_95 rfl ?_
        refine go_aload_n dX12_cut_96 rfl ?_
        refine go_getR fX12_37 dX12_cut_97 rfl (hR _ _ _ rfl) ?_
        refine go_iconst (v := iI 1) dX12_cut_100 (by decide) ?_
        refine go_iald dX12_cut_101 rfl (vp_iI (by decide)) ?_
        rw [cl_1, hT.2.2.1 1 (by decide)]
        refine go_aload_n dX12_cut_102 rfl ?_
        refine go_iload dX12_cut_103 rfl ?_
        refine go_iconst (v := iI 4) dX12_cut_105 (by decide) ?_
        refine go_callV (as := [_, _]) wX12_300 dX12_cut_106 rfl rfl rfl rfl (Nat.le_of_ble_eq_true rfl) (ct_X12_told (j := 4) hR hT hS.1 hi (by decide) ?_)
        refine go_iadd dX12_cut_109 ?_
        refine go_imul dX12_cut_110 ?_
        rw [iI_add, iI_mul]
        refine go_aload_n dX12_cut_111 rfl ?_
        refine go_iload dX12_cut_112 rfl ?_
        refine go_iconst (v := iI 3) dX12_cut_114 (by decide) ?_
        refine go_callV (as := [_, _]) wX12_300 dX12_cut_115 rfl rfl rfl rfl (Nat.le_of_ble_eq_true rfl) (ct_X12_told (j := 3) hR hT hS.1 hi (by decide) ?_)
        refine go_iadd dX12_cut_118 ?_
        refine go_iadd dX12_cut_119 ?_
        rw [iI_add, iI_add]
        refine go_istore dX12_cut_120 (Nat.le_of_ble_eq_true rfl) rfl ?_
        refine go_iincI dX12_cut_122 rfl (Nat.le_of_ble_eq_true rfl) rfl ?_
        refine go_goto (tgt := 49) dX12_cut_125 (by decide) ?_
        simp only [List.set, iI_add]
        have e : hwF s w n g (i + 1) = ((hwF s w n g i).1 + (wa w i + (n : Int) * skv s 0), (hwF s w n g i).2 + ((n : Int) * (skv s 1 + pd s i 4) + pd s i 3)) := if_pos (by omega)
        rw [e] at ih
        exact ih
      · rw [iI_eq0 (by omega)] at h64
        refine go_goto (tgt := 122) dX12_cut_67 (by decide) ?_
        refine go_iincI dX12_cut_122 rfl (Nat.le_of_ble_eq_true rfl) rfl ?_
        refine go_goto (tgt := 49) dX12_cut_125 (by decide) ?_
        simp only [List.set, iI_add]
        have e : hwF s w n g (i + 1) = hwF s w n g i := if_neg (by omega)
        rw [e] at ih
        exact ih

theorem mc30 {l : Launch} {D : va_G} {cA ad : Nat → Nat} {d : Nat} {σ : AS} {K : Option Value → AS → Prop} {X : XS} {n : Nat} (hR : RO σ) (hK0 : XK X) (hC : MI σ X) (hn : n ≤ 9) (hK : K (some (.int (iI (obI (mnS (lackB X n) (2 ^ nP (xs X))))))) σ) : ∀ i : Nat, i ≤ 2 ^ nP (xs X) → ∀ v4 v5 v6 : Value, Go l D cA ad (d + 1) mX12_cut 30 [.ref 111, .int (iI n), .int (iI (obI (mnS (lackB X n) i))), .int (iI i), v4, v5, v6] [] σ K := by
  have hP7 := hK0.s.1
  have hQ9 := hK0.s.2.1
  have hpw := pw_lt (nP (xs X)) (by omega)
  refine up_loop (P := fun i : Nat => ∀ v4 v5 v6 : Value, Go l D cA ad (d + 1) mX12_cut 30 [.ref 111, .int (iI n), .int (iI (obI (mnS (lackB X n) i))), .int (iI i), v4, v5, v6] [] σ K) (fun v4 v5 v6 => ?_) (fun i hi ih v4 v5 v6 => ?_)
  · refine go_iload_n dX12_cut_30 rfl ?_
    refine go_iconst (v := iI 1) dX12_cut_31 (by decide) ?_
    refine go_aload_n dX12_cut_32 rfl ?_
    refine go_getI fX12_294 dX12_cut_33 rfl ?_
    refine go_ishl dX12_cut_36 ?_
    refine go_icmp_ge (tgt := 230) dX12_cut_37 (by decide) (fun h37 => ?_) (fun h37 => ?_)
    · refine go_iload_n dX12_cut_230 rfl ?_
      refine go_iret rfl rfl dX12_cut_231 ?_
      exact hK
    · exfalso
      rw [hC.2.1.1, b_shl9 _ (by omega)] at h37
      generalize 2 ^ nP (xs X) = N at *
      rw [iI_le (by omega)] at h37
      omega
  · refine go_iload_n dX12_cut_30 rfl ?_
    refine go_iconst (v := iI 1) dX12_cut_31 (by decide) ?_
    refine go_aload_n dX12_cut_32 rfl ?_
    refine go_getI fX12_294 dX12_cut_33 rfl ?_
    refine go_ishl dX12_cut_36 ?_
    refine go_icmp_ge (tgt := 230) dX12_cut_37 (by decide) (fun h37 => ?_) (fun h37 => ?_)
    · exfalso
      rw [hC.2.1.1, b_shl9 _ (by omega)] at h37
      generalize 2 ^ nP (xs X) = N at *
      rw [iI_le (by omega)] at h37
      omega
    · refine go_iconst (v := iI 0) dX12_cut_40 (by decide) ?_
      refine go_istore dX12_cut_41 (Nat.le_of_ble_eq_true rfl) rfl ?_
      refine go_iconst (v := iI 0) dX12_cut_43 (by decide) ?_
      refine go_istore dX12_cut_44 (Nat.le_of_ble_eq_true rfl) rfl ?_
      refine go_iconst (v := iI 0) dX12_cut_46 (by decide) ?_
      refine go_istore dX12_cut_47 (Nat.le_of_ble_eq_true rfl) rfl ?_
      simp only [List.set]
      refine mc49 hR hC.2.1 hK0.s (WM_R.mpr hC.2.2.1.1) hK0.w (by omega) hn ?_ 0 (by omega)
      have hpc := bc_ok i (by omega)
      have hpl := pop_le i (by omega) (nP (xs X)) (by omega) hi
      have hbh := hwF_bd hK0.s hK0.w (g := i) hn (nP (xs X)) (Nat.le_refl _)
      have hbc := cqF_bd hK0.s (g := i) hn (nQ (xs X)) (Nat.le_refl _)
      cases hm : mnS (lackB X n) i with
      | none =>
        refine go_iload dX12_cut_199 rfl ?_
        refine go_iload dX12_cut_201 rfl ?_
        refine go_icmp_ge (tgt := 224) dX12_cut_203 (by decide) (fun h203 => ?_) (fun h203 => ?_)
        · rw [iI_le (by omega)] at h203
          refine go_iincI dX12_cut_224 rfl (Nat.le_of_ble_eq_true rfl) rfl ?_
          refine go_goto (tgt := 30) dX12_cut_227 (by decide) ?_
          simp only [List.set, iI_add]
          rw [mnS_b (show lackB X n i = false from decide_eq_false (by omega)), hm] at ih
          exact ih _ _ _
        · rw [iI_le (by omega)] at h203
          refine go_iload_n dX12_cut_206 rfl ?_
          refine go_iconst (v := iI (-1)) dX12_cut_207 (by decide) ?_
          refine go_icmp_eq (tgt := 222) dX12_cut_208 (by decide) (fun h208 => ?_) (fun h208 => ?_)
          · refine go_iload_n dX12_cut_222 rfl ?_
            refine go_istore_n dX12_cut_223 (Nat.le_of_ble_eq_true rfl) rfl ?_
            refine go_iincI dX12_cut_224 rfl (Nat.le_of_ble_eq_true rfl) rfl ?_
            refine go_goto (tgt := 30) dX12_cut_227 (by decide) ?_
            simp only [List.set, iI_add]
            rw [mnS_c (N := nP (xs X)) (by rw [hm]; unfold fwI; dsimp only; omega) (show lackB X n i = true from decide_eq_true (by omega))] at ih
            exact ih _ _ _
          · exact absurd h208 (by decide)
      | some b =>
        have hbl := mnS_lt i b hm
        have hpb := bc_ok b (by omega)
        refine go_iload dX12_cut_199 rfl ?_
        refine go_iload dX12_cut_201 rfl ?_
        refine go_icmp_ge (tgt := 224) dX12_cut_203 (by decide) (fun h203 => ?_) (fun h203 => ?_)
        · rw [iI_le (by omega)] at h203
          refine go_iincI dX12_cut_224 rfl (Nat.le_of_ble_eq_true rfl) rfl ?_
          refine go_goto (tgt := 30) dX12_cut_227 (by decide) ?_
          simp only [List.set, iI_add]
          rw [mnS_b (show lackB X n i = false from decide_eq_false (by omega)), hm] at ih
          exact ih _ _ _
        · rw [iI_le (by omega)] at h203
          refine go_iload_n dX12_cut_206 rfl ?_
          refine go_iconst (v := iI (-1)) dX12_cut_207 (by decide) ?_
          refine go_icmp_eq (tgt := 222) dX12_cut_208 (by decide) (fun h208 => ?_) (fun h208 => ?_)
          · exfalso
            rw [show obI (some b) = (b : Int) from rfl, iI_eq (by omega)] at h208
            omega
          · refine go_iload_n dX12_cut_211 rfl ?_
            refine go_callS (as := [_]) wX12_429 dX12_cut_212 rfl rfl (Nat.le_of_ble_eq_true rfl) (ct_J6_bitCount_0f7a4 (by omega) ?_)
            refine go_iload_n dX12_cut_215 rfl ?_
            refine go_callS (as := [_]) wX12_429 dX12_cut_216 rfl rfl (Nat.le_of_ble_eq_true rfl) (ct_J6_bitCount_0f7a4 (by omega) ?_)
            refine go_icmp_ge (tgt := 224) dX12_cut_219 (by decide) (fun h219 => ?_) (fun h219 => ?_)
            · rw [iI_le (by omega)] at h219
              refine go_iincI dX12_cut_224 rfl (Nat.le_of_ble_eq_true rfl) rfl ?_
              refine go_goto (tgt := 30) dX12_cut_227 (by decide) ?_
              simp only [List.set, iI_add]
              rw [mnS_a (N := nP (xs X)) (by rw [hm]; unfold fwI; dsimp only; omega) hpl, hm] at ih
              exact ih _ _ _
            · rw [iI_le (by omega)] at h219
              refine go_iload_n dX12_cut_222 rfl ?_
              refine go_istore_n dX12_cut_223 (Nat.le_of_ble_eq_true rfl) rfl ?_
              refine go_iincI dX12_cut_224 rfl (Nat.le_of_ble_eq_true rfl) rfl ?_
              refine go_goto (tgt := 30) dX12_cut_227 (by decide) ?_
              simp only [List.set, iI_add]
              rw [mnS_c (N := nP (xs X)) (by rw [hm]; unfold fwI; dsimp only; omega) (show lackB X n i = true from decide_eq_true (by omega))] at ih
              exact ih _ _ _

theorem ct_X12_cut {l : Launch} {D : va_G} {cA ad : Nat → Nat} {d : Nat} {σ : AS} {K : Option Value → AS → Prop} {X : XS} {n : Int} (hR : RO σ) (hK0 : XK X) (hC : MI σ X) (hn32 : -2147483648 ≤ n ∧ n < 2147483648) (hK : ∀ τ, DF (xL X) σ τ → K (some (.int (iI (cutA X n)))) τ) : Call l D cA ad (d + 1) mX12_cut [.ref 111, .int (iI n)] σ K := by
  have hP7 := hK0.s.1
  have hQ9 := hK0.s.2.1
  refine call_go (by decide) (Nat.le_of_ble_eq_true rfl) (show Go l D cA ad (d + 1) mX12_cut 0 [.ref 111, .int (iI n), .null, .null, .null, .null, .null] [] σ K from ?_)
  refine go_aload_n dX12_cut_0 rfl ?_
  refine go_iconst (v := iI 0) dX12_cut_1 (by decide) ?_
  refine go_putI fX12_96 rfl dX12_cut_2 rfl rfl rfl ?_
  have hq : DF (xL X) σ (sI σ 111 (upd (σ.1 111) 0 (iI 0))) := DF_f0 DF.rf
  have hR0 := hq.RO hR
  have hC0 := hC.q hK0 hq
  generalize sI σ 111 (upd (σ.1 111) 0 (iI 0)) = τ at hq hR0 hC0 ⊢
  refine go_aload_n dX12_cut_5 rfl ?_
  refine go_getI fX12_294 dX12_cut_6 rfl ?_
  refine go_if_eq (tgt := 24) dX12_cut_9 (by decide) (fun h9 => ?_) (fun h9 => ?_)
  · rw [hC0.2.1.1, iI_eq0 (by omega)] at h9
    refine go_iconst (v := iI (-1)) dX12_cut_24 (by decide) ?_
    refine go_iret rfl rfl dX12_cut_25 ?_
    have e : cutA X n = -1 := by unfold cutA; rw [if_neg (by omega)]
    have h9 := hK τ hq
    rw [e] at h9
    exact h9
  · rw [hC0.2.1.1, iI_eq0 (by omega)] at h9
    refine go_iload_n dX12_cut_12 rfl ?_
    refine go_i2l dX12_cut_13 ?_
    rw [i2l_iI (by omega)]
    refine go_lconst (v := 1) dX12_cut_14 (by decide) ?_
    refine go_ldc2 lX12_367 dX12_cut_15 ?_
    refine go_callS (as := [_, _, _]) wX12_217 dX12_cut_18 rfl rfl (Nat.le_of_ble_eq_true rfl) (ct_isIn2 (x := 1) (y := 9) (by decide) (by decide) (by omega) (fun hi => ?_) (fun hi => ?_))
    · refine go_if_ne (tgt := 26) dX12_cut_21 (by decide) (fun h21 => ?_) (fun h21 => ?_)
      · obtain ⟨q, rfl⟩ : ∃ q : Nat, n = q := ⟨n.toNat, by omega⟩
        refine go_iconst (v := iI (-1)) dX12_cut_26 (by decide) ?_
        refine go_istore_n dX12_cut_27 (Nat.le_of_ble_eq_true rfl) rfl ?_
        refine go_iconst (v := iI 1) dX12_cut_28 (by decide) ?_
        refine go_istore_n dX12_cut_29 (Nat.le_of_ble_eq_true rfl) rfl ?_
        simp only [List.set]
        have e : cutA X q = obI (mnS (lackB X q) (2 ^ nP (xs X))) := by unfold cutA; rw [if_pos (by omega), Int.toNat_natCast]
        have h99 := hK τ hq
        rw [e] at h99
        have h8 := mc30 (l := l) (D := D) (cA := cA) (ad := ad) (d := d) hR0 hK0 hC0 (by omega) h99 1 (Nat.pow_pos (by decide))
        rw [show mnS (lackB X q) 1 = none from mnS_b (lack_0 X q)] at h8
        exact h8 _ _ _
      · exact absurd h21 (by decide)
    · refine go_if_ne (tgt := 26) dX12_cut_21 (by decide) (fun h21 => ?_) (fun h21 => ?_)
      · exact absurd h21 (by decide)
      · refine go_iconst (v := iI (-1)) dX12_cut_24 (by decide) ?_
        refine go_iret rfl rfl dX12_cut_25 ?_
        have e : cutA X n = -1 := by unfold cutA; rw [if_neg (by omega)]
        have h9 := hK τ hq
        rw [e] at h9
        exact h9

