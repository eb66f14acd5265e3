/-! apart -/
theorem b_shl9 : ∀ j, j < 10 → iI 1 <<< (iI (j : Nat) &&& 31) = iI ((2 ^ j : Nat) : Int) := by decide +kernel
theorem clr_bit : ∀ m, m < 128 → ∀ j, j < 7 → clrB m j < 128 ∧ ∀ k, k < 7 → (clrB m j / 2 ^ k % 2 = if k = j then 0 else m / 2 ^ k % 2) := by decide +kernel
def caP (w : WT) (i : Nat) : Bool := decide (0 < ca w i)
def apQ (w : WT) (g i : Nat) : Nat → Bool
  | 0 => false
  | q + 1 => apQ w g i q || (decide (q ≠ i) && (decide (g / 2 ^ q % 2 = 1) && caP w q))
theorem apQ_iff {w : WT} {g i : Nat} : ∀ n, apQ w g i n = true ↔ ∃ q, q < n ∧ q ≠ i ∧ g / 2 ^ q % 2 = 1 ∧ 0 < ca w q
  | 0 => by
    constructor
    · intro h; simp [apQ] at h
    · rintro ⟨q, h, _⟩; omega
  | n + 1 => by
    unfold apQ
    rw [Bool.or_eq_true, apQ_iff n]
    constructor
    · rintro (⟨q, h1, h2⟩ | h)
      · exact ⟨q, by omega, h2⟩
      · unfold caP at h
        simp only [Bool.and_eq_true, decide_eq_true_eq] at h
        exact ⟨n, by omega, h⟩
    · rintro ⟨q, h1, h2⟩
      by_cases hq : q = n
      · right
        unfold caP
        simp only [Bool.and_eq_true, decide_eq_true_eq]
        rw [← hq]
        exact h2
      · exact Or.inl ⟨q, by omega, h2⟩
def mtB (s : PS) (w : WT) (m i : Nat) : Bool := decide (0 < pk w i) && apQ w (grpF s m i) i (nP s)
def apK (s : PS) (w : WT) (m : Nat) : Nat → Bool
  | 0 => true
  | i + 1 => apK s w m i && !mtB s w m i
theorem apK_f {s : PS} {w : WT} {m i : Nat} (h : mtB s w m i = true) : ∀ n, i < n → apK s w m n = false
  | 0, h0 => by omega
  | n + 1, hn => by
    unfold apK
    by_cases c : i = n
    · rw [← c, h]; simp
    · rw [apK_f h n (by omega)]; rfl
theorem apK_s {s : PS} {w : WT} {m i : Nat} (h : apK s w m i = true) (h2 : mtB s w m i = false) : apK s w m (i + 1) = true := by unfold apK; rw [h, h2]; rfl
theorem ap_and {s : PS} {w : WT} (hS : TwK s) {m i : Nat} (hi : i < nP s) : grpF s m i &&& clrB (btF (caP w) (nP s)) i ≠ 0 ↔ apQ w (grpF s m i) i (nP s) = true := by
  have hP7 := hS.1
  have hg := grp_lt hS (m := m) hi
  have hb : btF (caP w) (nP s) < 128 := p128 hS (btF_lt _ _ (by omega))
  have hc := clr_bit _ hb i (by omega)
  rw [and_ne, apQ_iff]
  constructor
  · rintro ⟨q, h1, h2⟩
    rw [tb_iff] at h1 h2
    have hq : q < 7 := by
      by_cases c : q < 7
      · exact c
      · have := bt_lo (n := 7) (k := q) hg (by omega)
        omega
    rw [hc.2 q hq, btF_bit _ _ (by omega) q (by omega)] at h2
    by_cases c : q = i
    · rw [if_pos c] at h2; omega
    · rw [if_neg c] at h2
      by_cases c2 : q < nP s ∧ caP w q = true
      · exact ⟨q, c2.1, c, h1, by have := c2.2; unfold caP at this; exact of_decide_eq_true this⟩
      · rw [if_neg c2] at h2; omega
  · rintro ⟨q, h0, h1, h2, h3⟩
    refine ⟨q, tb_iff.mpr h2, ?_⟩
    rw [tb_iff, hc.2 q (by omega), if_neg h1, btF_bit _ _ (by omega) q (by omega), if_pos ⟨h0, by unfold caP; exact decide_eq_true h3⟩]
def bsF (s : PS) (w : WT) : Nat → Nat
  | 0 => 0
  | i + 1 => if pop9 (bsF s w i) < pop9 i ∧ apK s w i (nP s) = true then i else bsF s w i
theorem bsF_lt (s : PS) (w : WT) : ∀ i, i ≤ 512 → bsF s w i < 512
  | 0, _ => by show 0 < 512; decide
  | i + 1, h => by
    have := bsF_lt s w i (by omega)
    unfold bsF
    split <;> omega
theorem bsF_1 (s : PS) (w : WT) : bsF s w 1 = 0 := by unfold bsF; rw [if_neg (fun q => absurd q.1 (Nat.lt_irrefl _))]; rfl
def apartA (X : XS) : Int := if 0 < nP (xs X) then (bsF (xs X) (xw X) (2 ^ nQ (xs X)) : Int) else -1
theorem ka45 {l : Launch} {D : va_G} {cA ad : Nat → Nat} {d : Nat} {σ : AS} {K : Option Value → AS → Prop} {s : PS} {w : WT} {m : Nat} (hR : RO σ) (hT : TwC σ s) (hS : TwK s) (hW : WC σ 87 w) (hw : WK s w) (hm : m < 512) (hK : K (some (.int (if apK s w m (nP s) = true then iI 1 else iI 0))) σ) : ∀ i : Nat, i ≤ nP s → apK s w m i = true → ∀ v4 : Value, Go l D cA ad (d + 1) mX6_keepsApart 45 [.ref 105, .int (iI m), .int (iI (btF (caP w) (nP s) : Nat)), .int (iI i), v4] [] σ K := by
  have hP7 := hS.1
  refine up_loop (P := fun i : Nat => apK s w m i = true → ∀ v4 : Value, Go l D cA ad (d + 1) mX6_keepsApart 45 [.ref 105, .int (iI m), .int (iI (btF (caP w) (nP s) : Nat)), .int (iI i), v4] [] σ K) (fun hap v4 => ?_) (fun i hi ih hap v4 => ?_)
  · refine go_iload_n dX6_keepsApart_45 rfl ?_
    refine go_aload_n dX6_keepsApart_46 rfl ?_
    refine go_getR fX6_22 dX6_keepsApart_47 rfl (hR _ _ _ rfl) ?_
    refine go_getI fX6_119 dX6_keepsApart_50 rfl ?_
    refine go_icmp_ge (tgt := 100) dX6_keepsApart_53 (by decide) (fun h53 => ?_) (fun h53 => ?_)
    · refine go_iconst (v := iI 1) dX6_keepsApart_100 (by decide) ?_
      refine go_iret rfl rfl dX6_keepsApart_101 ?_
      rw [if_pos hap] at hK
      exact hK
    · exfalso
      rw [hT.1, iI_le (by omega)] at h53
      omega
  · refine go_iload_n dX6_keepsApart_45 rfl ?_
    refine go_aload_n dX6_keepsApart_46 rfl ?_
    refine go_getR fX6_22 dX6_keepsApart_47 rfl (hR _ _ _ rfl) ?_
    refine go_getI fX6_119 dX6_keepsApart_50 rfl ?_
    refine go_icmp_ge (tgt := 100) dX6_keepsApart_53 (by decide) (fun h53 => ?_) (fun h53 => ?_)
    · exfalso
      rw [hT.1, iI_le (by omega)] at h53
      omega
    · have hb := p128 hS (btF_lt (caP w) (nP s) (by omega))
      have hc := clr_bit _ hb i (by omega)
      have h7 := wk7 hS hw i
      have hg := grp_lt hS (m := m) hi
      refine go_iload_n dX6_keepsApart_56 rfl ?_
      refine go_iconst (v := iI 1) dX6_keepsApart_57 (by decide) ?_
      refine go_iload_n dX6_keepsApart_58 rfl ?_
      refine go_ishl dX6_keepsApart_59 ?_
      refine go_iconst (v := iI (-1)) dX6_keepsApart_60 (by decide) ?_
      refine go_ixor dX6_keepsApart_61 ?_
      refine go_iand dX6_keepsApart_62 ?_
      rw [b_clr _ (by omega) i (by omega)]
      refine go_istore dX6_keepsApart_63 (Nat.le_of_ble_eq_true rfl) rfl ?_
      refine go_aload_n dX6_keepsApart_65 rfl ?_
      refine go_getR fX6_30 dX6_keepsApart_66 rfl (hR _ _ _ rfl) ?_
      refine go_getR fX6_146 dX6_keepsApart_69 rfl (hR _ _ _ rfl) ?_
      refine go_iload_n dX6_keepsApart_72 rfl ?_
      refine go_iald dX6_keepsApart_73 rfl (vp_iI (by omega)) ?_
      rw [cl_n _ (by omega), (hW.1 i (by omega)).2.2]
      refine go_if_le (tgt := 94) dX6_keepsApart_74 (by decide) (fun h74 => ?_) (fun h74 => ?_)
      · rw [iI_le0 (by omega)] at h74
        refine go_iincI dX6_keepsApart_94 rfl (Nat.le_of_ble_eq_true rfl) rfl ?_
        refine go_goto (tgt := 45) dX6_keepsApart_97 (by decide) ?_
        simp only [List.set, iI_add]
        exact ih (apK_s hap (by unfold mtB; rw [decide_eq_false (by omega)]; rfl)) _
      · rw [iI_le0 (by omega)] at h74
        refine go_aload_n dX6_keepsApart_77 rfl ?_
        refine go_getR fX6_22 dX6_keepsApart_78 rfl (hR _ _ _ rfl) ?_
        refine go_iload_n dX6_keepsApart_81 rfl ?_
        refine go_iload_n dX6_keepsApart_82 rfl ?_
        refine go_callV (as := [_, _]) wX6_128 dX6_keepsApart_83 rfl rfl rfl rfl (Nat.le_of_ble_eq_true rfl) (ct_X9_groupOf hR hT hS hm hi ?_)
        refine go_iload dX6_keepsApart_86 rfl ?_
        refine go_iand dX6_keepsApart_88 ?_
        rw [b_and2 _ hg _ hc.1]
        refine go_if_eq (tgt := 94) dX6_keepsApart_89 (by decide) (fun h89 => ?_) (fun h89 => ?_)
        · rw [iI_eq0 (by have := Nat.and_le_left (n := grpF s m i) (m := clrB (btF (caP w) (nP s)) i); omega)] at h89
          refine go_iincI dX6_keepsApart_94 rfl (Nat.le_of_ble_eq_true rfl) rfl ?_
          refine go_goto (tgt := 45) dX6_keepsApart_97 (by decide) ?_
          simp only [List.set, iI_add]
          refine ih (apK_s hap ?_) _
          unfold mtB
          rw [decide_eq_true (by omega)]
          cases hx : apQ w (grpF s m i) i (nP s) with
          | false => rfl
          | true => exact absurd (by omega) ((ap_and hS hi).mpr hx)
        · rw [iI_eq0 (by have := Nat.and_le_left (n := grpF s m i) (m := clrB (btF (caP w) (nP s)) i); omega)] at h89
          refine go_iconst (v := iI 0) dX6_keepsApart_92 (by decide) ?_
          refine go_iret rfl rfl dX6_keepsApart_93 ?_
          have hmt : mtB s w m i = true := by unfold mtB; rw [decide_eq_true (by omega), (ap_and hS hi).mp (by omega)]; rfl
          rw [if_neg (by rw [apK_f hmt (nP s) hi]; decide)] at hK
          exact hK

theorem ka4 {l : Launch} {D : va_G} {cA ad : Nat → Nat} {d : Nat} {σ : AS} {K : Option Value → AS → Prop} {s : PS} {w : WT} {m : Nat} (hR : RO σ) (hT : TwC σ s) (hS : TwK s) (hW : WC σ 87 w) (hw : WK s w) (hm : m < 512) (hK : K (some (.int (if apK s w m (nP s) = true then iI 1 else iI 0))) σ) : ∀ i : Nat, i ≤ nP s → ∀ v4 : Value, Go l D cA ad (d + 1) mX6_keepsApart 4 [.ref 105, .int (iI m), .int (iI (btF (caP w) i : Nat)), .int (iI i), v4] [] σ K := by
  have hP7 := hS.1
  refine up_loop (P := fun i : Nat => ∀ v4 : Value, Go l D cA ad (d + 1) mX6_keepsApart 4 [.ref 105, .int (iI m), .int (iI (btF (caP w) i : Nat)), .int (iI i), v4] [] σ K) (fun v4 => ?_) (fun i hi ih v4 => ?_)
  · refine go_iload_n dX6_keepsApart_4 rfl ?_
    refine go_aload_n dX6_keepsApart_5 rfl ?_
    refine go_getR fX6_22 dX6_keepsApart_6 rfl (hR _ _ _ rfl) ?_
    refine go_getI fX6_119 dX6_keepsApart_9 rfl ?_
    refine go_icmp_ge (tgt := 43) dX6_keepsApart_12 (by decide) (fun h12 => ?_) (fun h12 => ?_)
    · refine go_iconst (v := iI 0) dX6_keepsApart_43 (by decide) ?_
      refine go_istore_n dX6_keepsApart_44 (Nat.le_of_ble_eq_true rfl) rfl ?_
      simp only [List.set]
      exact ka45 hR hT hS hW hw hm hK 0 (by omega) rfl _
    · exfalso
      rw [hT.1, iI_le (by omega)] at h12
      omega
  · refine go_iload_n dX6_keepsApart_4 rfl ?_
    refine go_aload_n dX6_keepsApart_5 rfl ?_
    refine go_getR fX6_22 dX6_keepsApart_6 rfl (hR _ _ _ rfl) ?_
    refine go_getI fX6_119 dX6_keepsApart_9 rfl ?_
    refine go_icmp_ge (tgt := 43) dX6_keepsApart_12 (by decide) (fun h12 => ?_) (fun h12 => ?_)
    · exfalso
      rw [hT.1, iI_le (by omega)] at h12
      omega
    · have hbl := btF_512 (caP w) i (by omega)
      have h7 := wk7 hS hw i
      refine go_iload_n dX6_keepsApart_15 rfl ?_
      refine go_aload_n dX6_keepsApart_16 rfl ?_
      refine go_getR fX6_30 dX6_keepsApart_17 rfl (hR _ _ _ rfl) ?_
      refine go_getR fX6_143 dX6_keepsApart_20 rfl (hR _ _ _ rfl) ?_
      refine go_iload_n dX6_keepsApart_23 rfl ?_
      refine go_iald dX6_keepsApart_24 rfl (vp_iI (by omega)) ?_
      rw [cl_n _ (by omega), (hW.1 i (by omega)).2.1]
      refine go_if_le (tgt := 34) dX6_keepsApart_25 (by decide) (fun h25 => ?_) (fun h25 => ?_)
      · rw [iI_le0 (by omega)] at h25
        refine go_iconst (v := iI 0) dX6_keepsApart_34 (by decide) ?_
        refine go_ior dX6_keepsApart_35 ?_
        rw [b_or0]
        rw [btF_f (by unfold caP; exact decide_eq_false (by omega))] at ih
        refine go_istore_n dX6_keepsApart_36 (Nat.le_of_ble_eq_true rfl) rfl ?_
        refine go_iincI dX6_keepsApart_37 rfl (Nat.le_of_ble_eq_true rfl) rfl ?_
        refine go_goto (tgt := 4) dX6_keepsApart_40 (by decide) ?_
        simp only [List.set, iI_add]
        exact ih _
      · rw [iI_le0 (by omega)] at h25
        refine go_iconst (v := iI 1) dX6_keepsApart_28 (by decide) ?_
        refine go_iload_n dX6_keepsApart_29 rfl ?_
        refine go_ishl dX6_keepsApart_30 ?_
        refine go_goto (tgt := 35) dX6_keepsApart_31 (by decide) ?_
        refine go_ior dX6_keepsApart_35 ?_
        rw [b_or _ hbl i (by omega)]
        rw [btF_t (by unfold caP; exact decide_eq_true (by omega))] at ih
        refine go_istore_n dX6_keepsApart_36 (Nat.le_of_ble_eq_true rfl) rfl ?_
        refine go_iincI dX6_keepsApart_37 rfl (Nat.le_of_ble_eq_true rfl) rfl ?_
        refine go_goto (tgt := 4) dX6_keepsApart_40 (by decide) ?_
        simp only [List.set, iI_add]
        exact ih _

theorem ct_X6_keepsApart {l : Launch} {D : va_G} {cA ad : Nat → Nat} {d : Nat} {σ : AS} {K : Option Value → AS → Prop} {s : PS} {w : WT} {m : Nat} (hR : RO σ) (hT : TwC σ s) (hS : TwK s) (hW : WC σ 87 w) (hw : WK s w) (hm : m < 512) (hK : K (some (.int (if apK s w m (nP s) = true then iI 1 else iI 0))) σ) : Call l D cA ad (d + 1) mX6_keepsApart [.ref 105, .int (iI m)] σ K := by
  refine call_go (by decide) (Nat.le_of_ble_eq_true rfl) (show Go l D cA ad (d + 1) mX6_keepsApart 0 [.ref 105, .int (iI m), .null, .null, .null] [] σ K from ?_)
  refine go_iconst (v := iI 0) dX6_keepsApart_0 (by decide) ?_
  refine go_istore_n dX6_keepsApart_1 (Nat.le_of_ble_eq_true rfl) rfl ?_
  refine go_iconst (v := iI 0) dX6_keepsApart_2 (by decide) ?_
  refine go_istore_n dX6_keepsApart_3 (Nat.le_of_ble_eq_true rfl) rfl ?_
  exact ka4 hR hT hS hW hw hm hK 0 (by omega) _

theorem ma4 {l : Launch} {D : va_G} {cA ad : Nat → Nat} {d : Nat} {σ : AS} {K : Option Value → AS → Prop} {s : PS} {w : WT} (hR : RO σ) (hT : TwC σ s) (hS : TwK s) (hW : WC σ 87 w) (hw : WK s w) (hK : K (some (.int (iI (bsF s w (2 ^ nQ s) : Nat)))) σ) : ∀ i : Nat, i ≤ 2 ^ nQ s → Go l D cA ad (d + 2) mX6_mostOpenApart 4 [.ref 105, .int (iI (bsF s w i : Nat)), .int (iI i)] [] σ K := by
  have hQ9 := hS.2.1
  have hpw := pw_lt (nQ s) (by omega)
  refine up_loop ?_ (fun i hi ih => ?_)
  · refine go_iload_n dX6_mostOpenApart_4 rfl ?_
    refine go_iconst (v := iI 1) dX6_mostOpenApart_5 (by decide) ?_
    refine go_aload_n dX6_mostOpenApart_6 rfl ?_
    refine go_getR fX6_22 dX6_mostOpenApart_7 rfl (hR _ _ _ rfl) ?_
    refine go_getI fX6_98 dX6_mostOpenApart_10 rfl ?_
    refine go_ishl dX6_mostOpenApart_13 ?_
    refine go_icmp_ge (tgt := 44) dX6_mostOpenApart_14 (by decide) (fun h14 => ?_) (fun h14 => ?_)
    · refine go_iload_n dX6_mostOpenApart_44 rfl ?_
      refine go_iret rfl rfl dX6_mostOpenApart_45 ?_
      exact hK
    · exfalso
      rw [hT.2.1, b_shl9 _ (by omega)] at h14
      generalize 2 ^ nQ s = N at *
      rw [iI_le (by omega)] at h14
      omega
  · refine go_iload_n dX6_mostOpenApart_4 rfl ?_
    refine go_iconst (v := iI 1) dX6_mostOpenApart_5 (by decide) ?_
    refine go_aload_n dX6_mostOpenApart_6 rfl ?_
    refine go_getR fX6_22 dX6_mostOpenApart_7 rfl (hR _ _ _ rfl) ?_
    refine go_getI fX6_98 dX6_mostOpenApart_10 rfl ?_
    refine go_ishl dX6_mostOpenApart_13 ?_
    refine go_icmp_ge (tgt := 44) dX6_mostOpenApart_14 (by decide) (fun h14 => ?_) (fun h14 => ?_)
    · exfalso
      rw [hT.2.1, b_shl9 _ (by omega)] at h14
      generalize 2 ^ nQ s = N at *
      rw [iI_le (by omega)] at h14
      omega
    · have hbs := bsF_lt s w i (by omega)
      refine go_iload_n dX6_mostOpenApart_17 rfl ?_
      refine go_callS (as := [_]) wX6_101 dX6_mostOpenApart_18 rfl rfl (Nat.le_of_ble_eq_true rfl) (ct_J6_bitCount_0f7a4 (by omega) ?_)
      refine go_iload_n dX6_mostOpenApart_21 rfl ?_
      refine go_callS (as := [_]) wX6_101 dX6_mostOpenApart_22 rfl rfl (Nat.le_of_ble_eq_true rfl) (ct_J6_bitCount_0f7a4 hbs ?_)
      refine go_icmp_le (tgt := 38) dX6_mostOpenApart_25 (by decide) (fun h25 => ?_) (fun h25 => ?_)
      · rw [iI_le (by have := bc_ok i (by omega); have := bc_ok _ hbs; omega)] at h25
        refine go_iincI dX6_mostOpenApart_38 rfl (Nat.le_of_ble_eq_true rfl) rfl ?_
        refine go_goto (tgt := 4) dX6_mostOpenApart_41 (by decide) ?_
        simp only [List.set, iI_add]
        have e : bsF s w (i + 1) = bsF s w i := if_neg (fun q => by have := q.1; omega)
        rw [e] at ih
        exact ih
      · rw [iI_le (by have := bc_ok i (by omega); have := bc_ok _ hbs; omega)] at h25
        refine go_aload_n dX6_mostOpenApart_28 rfl ?_
        refine go_iload_n dX6_mostOpenApart_29 rfl ?_
        refine go_callV (as := [_]) wX6_140 dX6_mostOpenApart_30 rfl rfl rfl rfl (Nat.le_of_ble_eq_true rfl) (ct_X6_keepsApart hR hT hS hW hw (by omega) ?_)
        cases hap : apK s w i (nP s) with
        | false =>
          rw [if_neg (by decide)]
          refine go_if_eq (tgt := 38) dX6_mostOpenApart_33 (by decide) (fun h33 => ?_) (fun h33 => ?_)
          · refine go_iincI dX6_mostOpenApart_38 rfl (Nat.le_of_ble_eq_true rfl) rfl ?_
            refine go_goto (tgt := 4) dX6_mostOpenApart_41 (by decide) ?_
            simp only [List.set, iI_add]
            have e : bsF s w (i + 1) = bsF s w i := if_neg (fun q => by have := q.2; rw [hap] at this; cases this)
            rw [e] at ih
            exact ih
          · exact absurd h33 (by decide)
        | true =>
          rw [if_pos rfl]
          refine go_if_eq (tgt := 38) dX6_mostOpenApart_33 (by decide) (fun h33 => ?_) (fun h33 => ?_)
          · exact absurd h33 (by decide)
          · refine go_iload_n dX6_mostOpenApart_36 rfl ?_
            refine go_istore_n dX6_mostOpenApart_37 (Nat.le_of_ble_eq_true rfl) rfl ?_
            refine go_iincI dX6_mostOpenApart_38 rfl (Nat.le_of_ble_eq_true rfl) rfl ?_
            refine go_goto (tgt := 4) dX6_mostOpenApart_41 (by decide) ?_
            simp only [List.set, iI_add]
            have e : bsF s w (i + 1) = i := if_pos ⟨by omega, hap⟩
            rw [e] at ih
            exact ih

theorem ct_X6_mostOpenApart {l : Launch} {D : va_G} {cA ad : Nat → Nat} {d : Nat} {σ : AS} {K : Option Value → AS → Prop} {s : PS} {w : WT} (hR : RO σ) (hT : TwC σ s) (hS : TwK s) (hW : WC σ 87 w) (hw : WK s w) (hK : K (some (.int (iI (bsF s w (2 ^ nQ s) : Nat)))) σ) : Call l D cA ad (d + 2) mX6_mostOpenApart [.ref 105] σ K := by
  refine call_go (by decide) (Nat.le_of_ble_eq_true rfl) (show Go l D cA ad (d + 2) mX6_mostOpenApart 0 [.ref 105, .null, .null] [] σ K from ?_)
  refine go_iconst (v := iI 0) dX6_mostOpenApart_0 (by decide) ?_
  refine go_istore_n dX6_mostOpenApart_1 (Nat.le_of_ble_eq_true rfl) rfl ?_
  refine go_iconst (v := iI 0) dX6_mostOpenApart_2 (by decide) ?_
  refine go_istore_n dX6_mostOpenApart_3 (Nat.le_of_ble_eq_true rfl) rfl ?_
  exact ma4 hR hT hS hW hw hK 0 (Nat.zero_le _)

theorem ct_X11_apart {l : Launch} {D : va_G} {cA ad : Nat → Nat} {d : Nat} {σ : AS} {K : Option Value → AS → Prop} {X : XS} (hR : RO σ) (hK0 : XK X) (hC : CI σ X) (hK : ∀ τ, QF σ τ → K (some (.int (iI (apartA X)))) τ) : Call l D cA ad (d + 3) mX11_apart [.ref 0] σ K := by
  refine call_go (by decide) (Nat.le_of_ble_eq_true rfl) (show Go l D cA ad (d + 3) mX11_apart 0 [.ref 0] [] σ K from ?_)
  refine go_aload_n dX11_apart_0 rfl ?_
  refine go_getR fX11_19 dX11_apart_1 rfl (hR _ _ _ rfl) ?_
  refine go_callV (as := []) wX11_135 dX11_apart_4 rfl rfl rfl rfl (Nat.le_of_ble_eq_true rfl) (ct_told2 hC.2.1 hK0.s (fun hn => ?_) (fun hn => ?_))
  · refine go_if_eq (tgt := 20) dX11_apart_7 (by decide) (fun h7 => ?_) (fun h7 => ?_)
    · exact absurd h7 (by decide)
    · refine go_aload_n dX11_apart_10 rfl ?_
      refine go_getR fX11_94 dX11_apart_11 rfl (hR _ _ _ rfl) ?_
      refine go_callV (as := []) wX11_286 dX11_apart_14 rfl rfl rfl rfl (Nat.le_of_ble_eq_true rfl) (ct_X6_mostOpenApart hR hC.2.1 hK0.s hC.2.2.1 hK0.w ?_)
      refine go_goto (tgt := 21) dX11_apart_17 (by decide) ?_
      refine go_iret rfl rfl dX11_apart_21 ?_
      have e : apartA X = (bsF (xs X) (xw X) (2 ^ nQ (xs X)) : Int) := by unfold apartA; rw [if_pos (by omega)]
      have h9 := hK σ QF.rf
      rw [e] at h9
      exact h9
  · refine go_if_eq (tgt := 20) dX11_apart_7 (by decide) (fun h7 => ?_) (fun h7 => ?_)
    · refine go_iconst (v := iI (-1)) dX11_apart_20 (by decide) ?_
      refine go_iret rfl rfl dX11_apart_21 ?_
      have e : apartA X = -1 := by unfold apartA; rw [if_neg (by omega)]
      have h9 := hK σ QF.rf
      rw [e] at h9
      exact h9
    · exact absurd h7 (by decide)

theorem aa42 {l : Launch} {D : va_G} {cA ad : Nat → Nat} {d : Nat} {σ : AS} {K : Option Value → AS → Prop} {s : PS} {w : WT} {m p : Nat} (hR : RO σ) (hT : TwM σ s) (hS : TwK s) (hW : WM σ 124 w) (hw : WK s w) (hp : p < nP s) (hK1 : apQ w (grpF s m p) p (nP s) = true → K (some (.int (iI 0))) σ) (hK2 : apQ w (grpF s m p) p (nP s) = false → Go l D cA ad (d + 1) mX12_areApart 82 [.ref 111, .int (iI m), .int (iI (p : Nat)), .int (iI (clrB (grpF s m p) p : Nat)), .int (iI (nP s : Nat))] [] σ K) : ∀ i : Nat, i ≤ nP s → apQ w (grpF s m p) p i = false → Go l D cA ad (d + 1) mX12_areApart 42 [.ref 111, .int (iI m), .int (iI (p : Nat)), .int (iI (clrB (grpF s m p) p : Nat)), .int (iI i)] [] σ K := by
  have hP7 := hS.1
  refine up_loop (P := fun i : Nat => apQ w (grpF s m p) p i = false → Go l D cA ad (d + 1) mX12_areApart 42 [.ref 111, .int (iI m), .int (iI (p : Nat)), .int (iI (clrB (grpF s m p) p : Nat)), .int (iI i)] [] σ K) (fun hap => ?_) (fun i hi ih hap => ?_)
  · refine go_iload dX12_areApart_42 rfl ?_
    refine go_aload_n dX12_areApart_44 rfl ?_
    refine go_getI fX12_294 dX12_areApart_45 rfl ?_
    refine go_icmp_ge (tgt := 82) dX12_areApart_48 (by decide) (fun h48 => ?_) (fun h48 => ?_)
    · exact hK2 hap
    · exfalso
      rw [hT.1, iI_le (by omega)] at h48
      omega
  · refine go_iload dX12_areApart_42 rfl ?_
    refine go_aload_n dX12_areApart_44 rfl ?_
    refine go_getI fX12_294 dX12_areApart_45 rfl ?_
    refine go_icmp_ge (tgt := 82) dX12_areApart_48 (by decide) (fun h48 => ?_) (fun h48 => ?_)
    · exfalso
      rw [hT.1, iI_le (by omega)] at h48
      omega
    · have hc := clr_bit _ (grp_lt hS (m := m) hp) p (by omega)
      have h7 := wk7 hS hw i
      have hcb := hc.2 i (by omega)
      refine go_iload_n dX12_areApart_51 rfl ?_
      refine go_iload dX12_areApart_52 rfl ?_
      refine go_callS (as := [_, _]) wX12_229 dX12_areApart_54 rfl rfl (Nat.le_of_ble_eq_true rfl) (ct_X12_has (by omega) (by omega) ?_)
      refine go_if_eq (tgt := 76) dX12_areApart_57 (by decide) (fun h57 => ?_) (fun h57 => ?_)
      · rw [iI_eq0 (by omega)] at h57
        refine go_iincI dX12_areApart_76 rfl (Nat.le_of_ble_eq_true rfl) rfl ?_
        refine go_goto (tgt := 42) dX12_areApart_79 (by decide) ?_
        simp only [List.set, iI_add]
        refine ih ?_
        unfold apQ
        rw [hap]
        unfold caP
        simp only [Bool.false_or]
        cases hx : (decide (i ≠ p) && (decide (grpF s m p / 2 ^ i % 2 = 1) && decide (0 < ca w i))) with
        | false => rfl
        | true =>
          simp only [Bool.and_eq_true, decide_eq_true_eq] at hx
          rw [if_neg hx.1] at hcb
          omega
      · rw [iI_eq0 (by omega)] at h57
        refine go_aload_n dX12_areApart_60 rfl ?_
        refine go_getR fX12_61 dX12_areApart_61 rfl (hR _ _ _ rfl) ?_
        refine go_iconst (v := iI 3) dX12_areApart_64 (by decide) ?_
        refine go_iload dX12_areApart_65 rfl ?_
        refine go_imul dX12_areApart_67 ?_
        refine go_iconst (v := iI 1) dX12_areApart_68 (by decide) ?_
        refine go_iadd dX12_areApart_69 ?_
        rw [iI_mul, iI_add]
        refine go_iald dX12_areApart_70 rfl (vp_iI (by omega)) ?_
        rw [iI_cl (by omega), show (3 * (i : Int) + 1).toNat = 3 * i + 1 by omega, (hW.1 i (by omega)).2.1]
        refine go_if_le (tgt := 76) dX12_areApart_71 (by decide) (fun h71 => ?_) (fun h71 => ?_)
        · rw [iI_le0 (by omega)] at h71
          refine go_iincI dX12_areApart_76 rfl (Nat.le_of_ble_eq_true rfl) rfl ?_
          refine go_goto (tgt := 42) dX12_areApart_79 (by decide) ?_
          simp only [List.set, iI_add]
          refine ih ?_
          unfold apQ
          rw [hap]
          unfold caP
          simp only [Bool.false_or]
          cases hx : (decide (i ≠ p) && (decide (grpF s m p / 2 ^ i % 2 = 1) && decide (0 < ca w i))) with
          | false => rfl
          | true =>
            simp only [Bool.and_eq_true, decide_eq_true_eq] at hx
            rw [if_neg hx.1] at hcb
            omega
        · rw [iI_le0 (by omega)] at h71
          refine go_iconst (v := iI 0) dX12_areApart_74 (by decide) ?_
          refine go_iret rfl rfl dX12_areApart_75 ?_
          refine hK1 ((apQ_iff _).mpr ⟨i, hi, ?_, ?_, by omega⟩)
          · intro q; rw [if_pos q] at hcb; omega
          · by_cases c : i = p
            · rw [if_pos c] at hcb; omega
            · rw [if_neg c] at hcb; omega

theorem aa2 {l : Launch} {D : va_G} {cA ad : Nat → Nat} {d : Nat} {σ : AS} {K : Option Value → AS → Prop} {s : PS} {w : WT} {m : Nat} (hR : RO σ) (hT : TwM σ s) (hS : TwK s) (hW : WM σ 124 w) (hw : WK s w) (hm : m < 512) (hK : K (some (.int (if apK s w m (nP s) = true then iI 1 else iI 0))) σ) : ∀ i : Nat, i ≤ nP s → apK s w m i = true → ∀ v3 v4 : Value, Go l D cA ad (d + 2) mX12_areApart 2 [.ref 111, .int (iI m), .int (iI i), v3, v4] [] σ K := by
  have hP7 := hS.1
  refine up_loop (P := fun i : Nat => apK s w m i = true → ∀ v3 v4 : Value, Go l D cA ad (d + 2) mX12_areApart 2 [.ref 111, .int (iI m), .int (iI i), v3, v4] [] σ K) (fun hap v3 v4 => ?_) (fun i hi ih hap v3 v4 => ?_)
  · refine go_iload_n dX12_areApart_2 rfl ?_
    refine go_aload_n dX12_areApart_3 rfl ?_
    refine go_getI fX12_294 dX12_areApart_4 rfl ?_
    refine go_icmp_ge (tgt := 88) dX12_areApart_7 (by decide) (fun h7 => ?_) (fun h7 => ?_)
    · refine go_iconst (v := iI 1) dX12_areApart_88 (by decide) ?_
      refine go_iret rfl rfl dX12_areApart_89 ?_
      rw [if_pos hap] at hK
      exact hK
    · exfalso
      rw [hT.1, iI_le (by omega)] at h7
      omega
  · refine go_iload_n dX12_areApart_2 rfl ?_
    refine go_aload_n dX12_areApart_3 rfl ?_
    refine go_getI fX12_294 dX12_areApart_4 rfl ?_
    refine go_icmp_ge (tgt := 88) dX12_areApart_7 (by decide) (fun h7 => ?_) (fun h7 => ?_)
    · exfalso
      rw [hT.1, iI_le (by omega)] at h7
      omega
    · have h7' := wk7 hS hw i
      refine go_aload_n dX12_areApart_10 rfl ?_
      refine go_getR fX12_61 dX12_areApart_11 rfl (hR _ _ _ rfl) ?_
      refine go_iconst (v := iI 3) dX12_areApart_14 (by decide) ?_
      refine go_iload_n dX12_areApart_15 rfl ?_
      refine go_imul dX12_areApart_16 ?_
      refine go_iconst (v := iI 2) dX12_areApart_17 (by decide) ?_
      refine go_iadd dX12_areApart_18 ?_
      rw [iI_mul, iI_add]
      refine go_iald dX12_areApart_19 rfl (vp_iI (by omega)) ?_
      rw [iI_cl (by omega), show (3 * (i : Int) + 2).toNat = 3 * i + 2 by omega, (hW.1 i (by omega)).2.2]
      refine go_if_ne (tgt := 26) dX12_areApart_20 (by decide) (fun h20 => ?_) (fun h20 => ?_)
      · rw [iI_eq0 (by omega)] at h20
        refine go_aload_n dX12_areApart_26 rfl ?_
        refine go_iload_n dX12_areApart_27 rfl ?_
        refine go_iload_n dX12_areApart_28 rfl ?_
        refine go_callV (as := [_, _]) wX12_437 dX12_areApart_29 rfl rfl rfl rfl (Nat.le_of_ble_eq_true rfl) (ct_X12_joinedBy hR hT hS hm hi ?_)
        refine go_iconst (v := iI 1) dX12_areApart_32 (by decide) ?_
        refine go_iload_n dX12_areApart_33 rfl ?_
        refine go_ishl dX12_areApart_34 ?_
        refine go_iconst (v := iI (-1)) dX12_areApart_35 (by decide) ?_
        refine go_ixor dX12_areApart_36 ?_
        refine go_iand dX12_areApart_37 ?_
        rw [b_clr _ (by have := grp_lt hS (m := m) hi; omega) i (by omega)]
        refine go_istore_n dX12_areApart_38 (Nat.le_of_ble_eq_true rfl) rfl ?_
        refine go_iconst (v := iI 0) dX12_areApart_39 (by decide) ?_
        refine go_istore dX12_areApart_40 (Nat.le_of_ble_eq_true rfl) rfl ?_
        simp only [List.set]
        refine aa42 hR hT hS hW hw hi (fun hx => ?_) (fun hx => ?_) 0 (by omega) rfl
        · have hmt : mtB s w m i = true := by unfold mtB; rw [decide_eq_true (by omega), hx]; rfl
          rw [if_neg (by rw [apK_f hmt (nP s) hi]; decide)] at hK
          exact hK
        · refine go_iincI dX12_areApart_82 rfl (Nat.le_of_ble_eq_true rfl) rfl ?_
          refine go_goto (tgt := 2) dX12_areApart_85 (by decide) ?_
          simp only [List.set, iI_add]
          exact ih (apK_s hap (by unfold mtB; rw [decide_eq_true (by omega), hx]; rfl)) _ _
      · rw [iI_eq0 (by omega)] at h20
        refine go_goto (tgt := 82) dX12_areApart_23 (by decide) ?_
        refine go_iincI dX12_areApart_82 rfl (Nat.le_of_ble_eq_true rfl) rfl ?_
        refine go_goto (tgt := 2) dX12_areApart_85 (by decide) ?_
        simp only [List.set, iI_add]
        exact ih (apK_s hap (by unfold mtB; rw [decide_eq_false (by omega)]; rfl)) _ _

theorem ct_X12_areApart {l : Launch} {D : va_G} {cA ad : Nat → Nat} {d : Nat} {σ : AS} {K : Option Value → AS → Prop} {s : PS} {w : WT} {m : Nat} (hR : RO σ) (hT : TwM σ s) (hS : TwK s) (hW : WM σ 124 w) (hw : WK s w) (hm : m < 512) (hK : K (some (.int (if apK s w m (nP s) = true then iI 1 else iI 0))) σ) : Call l D cA ad (d + 2) mX12_areApart [.ref 111, .int (iI m)] σ K := by
  refine call_go (by decide) (Nat.le_of_ble_eq_true rfl) (show Go l D cA ad (d + 2) mX12_areApart 0 [.ref 111, .int (iI m), .null, .null, .null] [] σ K from ?_)
  refine go_iconst (v := iI 0) dX12_areApart_0 (by decide) ?_
  refine go_istore_n dX12_areApart_1 (Nat.le_of_ble_eq_true rfl) rfl ?_
  exact aa2 hR hT hS hW hw hm hK 0 (by omega) rfl _ _

theorem mp18 {l : Launch} {D : va_G} {cA ad : Nat → Nat} {d : Nat} {σ : AS} {K : Option Value → AS → Prop} {s : PS} {w : WT} (hR : RO σ) (hT : TwM σ s) (hS : TwK s) (hW : WM σ 124 w) (hw : WK s w) (hK : K (some (.int (iI (bsF s w (2 ^ nQ s) : Nat)))) σ) : ∀ i : Nat, i ≤ 2 ^ nQ s → Go l D cA ad (d + 3) mX12_apart 18 [.ref 111, .int (iI (bsF s w i : Nat)), .int (iI i)] [] σ K := by
  have hQ9 := hS.2.1
  have hpw := pw_lt (nQ s) (by omega)
  refine up_loop ?_ (fun i hi ih => ?_)
  · refine go_iload_n dX12_apart_18 rfl ?_
    refine go_iconst (v := iI 1) dX12_apart_19 (by decide) ?_
    refine go_aload_n dX12_apart_20 rfl ?_
    refine go_getI fX12_297 dX12_apart_21 rfl ?_
    refine go_ishl dX12_apart_24 ?_
    refine go_icmp_ge (tgt := 55) dX12_apart_25 (by decide) (fun h25 => ?_) (fun h25 => ?_)
    · refine go_iload_n dX12_apart_55 rfl ?_
      refine go_iret rfl rfl dX12_apart_56 ?_
      exact hK
    · exfalso
      rw [hT.2.1, b_shl9 _ (by omega)] at h25
      generalize 2 ^ nQ s = N at *
      rw [iI_le (by omega)] at h25
      omega
  · refine go_iload_n dX12_apart_18 rfl ?_
    refine go_iconst (v := iI 1) dX12_apart_19 (by decide) ?_
    refine go_aload_n dX12_apart_20 rfl ?_
    refine go_getI fX12_297 dX12_apart_21 rfl ?_
    refine go_ishl dX12_apart_24 ?_
    refine go_icmp_ge (tgt := 55) dX12_apart_25 (by decide) (fun h25 => ?_) (fun h25 => ?_)
    · exfalso
      rw [hT.2.1, b_shl9 _ (by omega)] at h25
      generalize 2 ^ nQ s = N at *
      rw [iI_le (by omega)] at h25
      omega
    · have hbs := bsF_lt s w i (by omega)
      refine go_iload_n dX12_apart_28 rfl ?_
      refine go_callS (as := [_]) wX12_429 dX12_apart_29 rfl rfl (Nat.le_of_ble_eq_true rfl) (ct_J6_bitCount_0f7a4 (by omega) ?_)
      refine go_iload_n dX12_apart_32 rfl ?_
      refine go_callS (as := [_]) wX12_429 dX12_apart_33 rfl rfl (Nat.le_of_ble_eq_true rfl) (ct_J6_bitCount_0f7a4 hbs ?_)
      refine go_icmp_le (tgt := 49) dX12_apart_36 (by decide) (fun h36 => ?_) (fun h36 => ?_)
      · rw [iI_le (by have := bc_ok i (by omega); have := bc_ok _ hbs; omega)] at h36
        refine go_iincI dX12_apart_49 rfl (Nat.le_of_ble_eq_true rfl) rfl ?_
        refine go_goto (tgt := 18) dX12_apart_52 (by decide) ?_
        simp only [List.set, iI_add]
        have e : bsF s w (i + 1) = bsF s w i := if_neg (fun q => by have := q.1; omega)
        rw [e] at ih
        exact ih
      · rw [iI_le (by have := bc_ok i (by omega); have := bc_ok _ hbs; omega)] at h36
        refine go_aload_n dX12_apart_39 rfl ?_
        refine go_iload_n dX12_apart_40 rfl ?_
        refine go_callV (as := [_]) wX12_440 dX12_apart_41 rfl rfl rfl rfl (Nat.le_of_ble_eq_true rfl) (ct_X12_areApart hR hT hS hW hw (by omega) ?_)
        cases hap : apK s w i (nP s) with
        | false =>
          rw [if_neg (by decide)]
          refine go_if_eq (tgt := 49) dX12_apart_44 (by decide) (fun h44 => ?_) (fun h44 => ?_)
          · refine go_iincI dX12_apart_49 rfl (Nat.le_of_ble_eq_true rfl) rfl ?_
            refine go_goto (tgt := 18) dX12_apart_52 (by decide) ?_
            simp only [List.set, iI_add]
            have e : bsF s w (i + 1) = bsF s w i := if_neg (fun q => by have := q.2; rw [hap] at this; cases this)
            rw [e] at ih
            exact ih
          · exact absurd h44 (by decide)
        | true =>
          rw [if_pos rfl]
          refine go_if_eq (tgt := 49) dX12_apart_44 (by decide) (fun h44 => ?_) (fun h44 => ?_)
          · exact absurd h44 (by decide)
          · refine go_iload_n dX12_apart_47 rfl ?_
            refine go_istore_n dX12_apart_48 (Nat.le_of_ble_eq_true rfl) rfl ?_
            refine go_iincI dX12_apart_49 rfl (Nat.le_of_ble_eq_true rfl) rfl ?_
            refine go_goto (tgt := 18) dX12_apart_52 (by decide) ?_
            simp only [List.set, iI_add]
            have e : bsF s w (i + 1) = i := if_pos ⟨by omega, hap⟩
            rw [e] at ih
            exact ih

theorem ct_X12_apart {l : Launch} {D : va_G} {cA ad : Nat → Nat} {d : Nat} {σ : AS} {K : Option Value → AS → Prop} {X : XS} (hR : RO σ) (hK0 : XK X) (hC : MI σ X) (hK : ∀ τ, DF (xL X) σ τ → K (some (.int (iI (apartA X)))) τ) : Call l D cA ad (d + 3) mX12_apart [.ref 111] σ K := by
  have hP7 := hK0.s.1
  have hQ9 := hK0.s.2.1
  refine call_go (by decide) (Nat.le_of_ble_eq_true rfl) (show Go l D cA ad (d + 3) mX12_apart 0 [.ref 111, .null, .null] [] σ K from ?_)
  refine go_aload_n dX12_apart_0 rfl ?_
  refine go_iconst (v := iI 0) dX12_apart_1 (by decide) ?_
  refine go_putI fX12_96 rfl dX12_apart_2 rfl rfl rfl ?_
  have hq : DF (xL X) σ (sI σ 111 (upd (σ.1 111) 0 (iI 0))) := DF_f0 DF.rf
  have hR0 := hq.RO hR
  have hC0 := hC.q hK0 hq
  generalize sI σ 111 (upd (σ.1 111) 0 (iI 0)) = τ at hq hR0 hC0 ⊢
  refine go_aload_n dX12_apart_5 rfl ?_
  refine go_getI fX12_294 dX12_apart_6 rfl ?_
  refine go_if_ne (tgt := 14) dX12_apart_9 (by decide) (fun h9 => ?_) (fun h9 => ?_)
  · rw [hC0.2.1.1, iI_eq0 (by omega)] at h9
    refine go_iconst (v := iI 0) dX12_apart_14 (by decide) ?_
    refine go_istore_n dX12_apart_15 (Nat.le_of_ble_eq_true rfl) rfl ?_
    refine go_iconst (v := iI 1) dX12_apart_16 (by decide) ?_
    refine go_istore_n dX12_apart_17 (Nat.le_of_ble_eq_true rfl) rfl ?_
    simp only [List.set]
    have e : apartA X = (bsF (xs X) (xw X) (2 ^ nQ (xs X)) : Int) := by unfold apartA; rw [if_pos (by omega)]
    have h9' := hK τ hq
    rw [e] at h9'
    have h8 := mp18 (l := l) (D := D) (cA := cA) (ad := ad) (d := d) hR0 hC0.2.1 hK0.s (WM_R.mpr hC0.2.2.1.1) hK0.w h9' 1 (Nat.pow_pos (by decide))
    rw [bsF_1] at h8
    exact h8
  · rw [hC0.2.1.1, iI_eq0 (by omega)] at h9
    refine go_iconst (v := iI (-1)) dX12_apart_12 (by decide) ?_
    refine go_iret rfl rfl dX12_apart_13 ?_
    have e : apartA X = -1 := by unfold apartA; rw [if_neg (by omega)]
    have h9 := hK τ hq
    rw [e] at h9
    exact h9

