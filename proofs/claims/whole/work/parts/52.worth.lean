/-! a law is worked off -/
def LB (b : Nat) : Prop := sh[b]? = some (0, 3) ∧ sh[b + 1]? = some (1, 240) ∧ sh[b + 2]? = some (1, 6) ∧ sh[b + 3]? = some (1, 64) ∧ R0 b 0 = some (b + 1) ∧ R0 b 2 = some (b + 2) ∧ R0 b 3 = some (b + 3)
theorem LB_ok : ∀ k, k < 4 → LB (50 + 4 * k) := by
  intro k hk
  rcases (show k = 0 ∨ k = 1 ∨ k = 2 ∨ k = 3 by omega) with rfl | rfl | rfl | rfl <;> exact ⟨rfl, rfl, rfl, rfl, rfl, rfl, rfl⟩
def LwC (τ : AS) (b : Nat) (cd : List Int) : Prop := τ.1 b 1 = iI cd.length ∧ ∀ i x, cd[i]? = some x → τ.1 (b + 1) i = iI x
def LwE (τ : AS) (b : Nat) (ev : Nat → Int) : Prop := ∀ j, j < 6 → τ.1 (b + 2) j = iI (ev j)
def hdW (l : Launch) (D : va_G) (cA ad : Nat → Nat) (d : Nat) (τ : AS) (b : Nat) (xs : Nat → Int32) (K : Option Value → AS → Prop) (p k : Nat) (r : Nat → Int32) : Prop := ∀ v9 : Value, Go l D cA ad (d + 1) mX3_worth 51 [.ref b, .int (xs 0), .int (xs 1), .int (xs 2), .int (xs 3), .int (xs 4), .int (xs 5), .int (iI k), .int (iI p), v9] [] (sI τ (b + 3) r) K
theorem s_num {l : Launch} {D : va_G} {cA ad : Nat → Nat} {d : Nat} {τ : AS} {K : Option Value → AS → Prop} {b : Nat} {xs : Nat → Int32} {cd : List Int} {p k : Nat} {x : Int} {r : Nat → Int32} (hR : RO τ) (hb : LB b) (hL : LwC τ b cd) (hcd : cd.length ≤ 240) (hx : cd[p]? = some x) (h0 : 0 ≤ x) (h1 : x ≤ 99999) (hk : k < 64) (h : hdW l D cA ad d τ b xs K (p + 1) (k + 1) (upd r k (iI x))) : hdW l D cA ad d τ b xs K p k r := by
  intro v9
  have hp := (List.getElem?_eq_some_iff.mp hx).1
  refine go_iload dX3_worth_51 rfl ?_
  refine go_aload_n dX3_worth_53 rfl ?_
  refine go_getI fX3_35 dX3_worth_54 hb.1 ?_
  refine go_icmp_ge (tgt := 278) dX3_worth_57 (by decide) (fun h57 => ?_) (fun h57 => ?_)
  · exfalso
    rw [sI_ne _ _ _ _ (by omega), hL.1, iI_le (by omega)] at h57
    omega
  · refine go_iload dX3_worth_60 rfl ?_
    refine go_aload_n dX3_worth_62 rfl ?_
    refine go_getR fX3_26 dX3_worth_63 hb.1 (hR _ _ _ hb.2.2.2.2.2.2) ?_
    refine go_alen1 dX3_worth_66 hb.2.2.2.1 ?_
    refine go_icmp_ge (tgt := 278) dX3_worth_67 (by decide) (fun h67 => ?_) (fun h67 => ?_)
    · exfalso
      rw [iI_ofNat, iI_le (by omega)] at h67
      omega
    · refine go_aload_n dX3_worth_70 rfl ?_
      refine go_getR fX3_9 dX3_worth_71 hb.1 (hR _ _ _ hb.2.2.2.2.1) ?_
      refine go_iload dX3_worth_74 rfl ?_
      refine go_iald dX3_worth_76 hb.2.1 (vp_iI (by omega)) ?_
      rw [cl_n p (by omega), sI_ne _ _ _ _ (by omega), hL.2 p _ hx]
      refine go_istore dX3_worth_77 (Nat.le_of_ble_eq_true rfl) rfl ?_
      refine go_iload dX3_worth_79 rfl ?_
      refine go_bipush (v := iI (-6)) dX3_worth_81 (by decide) ?_
      refine go_icmp_lt (tgt := 118) dX3_worth_83 (by decide) (fun h83 => ?_) (fun h83 => ?_)
      · exfalso
        rw [iI_lt (by omega)] at h83
        omega
      · refine go_aload_n dX3_worth_86 rfl ?_
        refine go_getR fX3_26 dX3_worth_87 hb.1 (hR _ _ _ hb.2.2.2.2.2.2) ?_
        refine go_iload dX3_worth_90 rfl ?_
        refine go_iload dX3_worth_92 rfl ?_
        refine go_if_lt (tgt := 102) dX3_worth_94 (by decide) (fun h94 => ?_) (fun h94 => ?_)
        · exfalso
          rw [iI_lt0 (by omega)] at h94
          omega
        · refine go_iload dX3_worth_97 rfl ?_
          refine go_goto (tgt := 111) dX3_worth_99 (by decide) ?_
          refine go_iast dX3_worth_111 hb.2.2.2.1 (vp_iI (by omega)) ?_
          refine go_iincI dX3_worth_112 rfl (Nat.le_of_ble_eq_true rfl) rfl ?_
          refine go_goto (tgt := 272) dX3_worth_115 (by decide) ?_
          refine go_iincI dX3_worth_272 rfl (Nat.le_of_ble_eq_true rfl) rfl ?_
          refine go_goto (tgt := 51) dX3_worth_275 (by decide) ?_
          rw [cl_n k (by omega), sI_same, sI_sI]
          simp only [List.set, iI_add]
          exact h _
theorem s_ltr {l : Launch} {D : va_G} {cA ad : Nat → Nat} {d : Nat} {τ : AS} {K : Option Value → AS → Prop} {b : Nat} {xs : Nat → Int32} {cd : List Int} {ev : Nat → Int} {p k j : Nat} {r : Nat → Int32} (hR : RO τ) (hb : LB b) (hL : LwC τ b cd) (hcd : cd.length ≤ 240) (hE : LwE τ b ev) (hx : cd[p]? = some (-1 - (j : Int))) (hj : j < 6) (hk : k < 64) (h : hdW l D cA ad d τ b xs K (p + 1) (k + 1) (upd r k (iI (ev j)))) : hdW l D cA ad d τ b xs K p k r := by
  intro v9
  have hp := (List.getElem?_eq_some_iff.mp hx).1
  have e1 : iI (-1) - iI (-1 - (j : Int)) = iI (j : Int) := by rw [iI_sub]; congr 1; omega
  refine go_iload dX3_worth_51 rfl ?_
  refine go_aload_n dX3_worth_53 rfl ?_
  refine go_getI fX3_35 dX3_worth_54 hb.1 ?_
  refine go_icmp_ge (tgt := 278) dX3_worth_57 (by decide) (fun h57 => ?_) (fun h57 => ?_)
  · exfalso
    rw [sI_ne _ _ _ _ (by omega), hL.1, iI_le (by omega)] at h57
    omega
  · refine go_iload dX3_worth_60 rfl ?_
    refine go_aload_n dX3_worth_62 rfl ?_
    refine go_getR fX3_26 dX3_worth_63 hb.1 (hR _ _ _ hb.2.2.2.2.2.2) ?_
    refine go_alen1 dX3_worth_66 hb.2.2.2.1 ?_
    refine go_icmp_ge (tgt := 278) dX3_worth_67 (by decide) (fun h67 => ?_) (fun h67 => ?_)
    · exfalso
      rw [iI_ofNat, iI_le (by omega)] at h67
      omega
    · refine go_aload_n dX3_worth_70 rfl ?_
      refine go_getR fX3_9 dX3_worth_71 hb.1 (hR _ _ _ hb.2.2.2.2.1) ?_
      refine go_iload dX3_worth_74 rfl ?_
      refine go_iald dX3_worth_76 hb.2.1 (vp_iI (by omega)) ?_
      rw [cl_n p (by omega), sI_ne _ _ _ _ (by omega), hL.2 p _ hx]
      refine go_istore dX3_worth_77 (Nat.le_of_ble_eq_true rfl) rfl ?_
      refine go_iload dX3_worth_79 rfl ?_
      refine go_bipush (v := iI (-6)) dX3_worth_81 (by decide) ?_
      refine go_icmp_lt (tgt := 118) dX3_worth_83 (by decide) (fun h83 => ?_) (fun h83 => ?_)
      · exfalso
        rw [iI_lt (by omega)] at h83
        omega
      · refine go_aload_n dX3_worth_86 rfl ?_
        refine go_getR fX3_26 dX3_worth_87 hb.1 (hR _ _ _ hb.2.2.2.2.2.2) ?_
        refine go_iload dX3_worth_90 rfl ?_
        refine go_iload dX3_worth_92 rfl ?_
        refine go_if_lt (tgt := 102) dX3_worth_94 (by decide) (fun h94 => ?_) (fun h94 => ?_)
        · refine go_aload_n dX3_worth_102 rfl ?_
          refine go_getR fX3_23 dX3_worth_103 hb.1 (hR _ _ _ hb.2.2.2.2.2.1) ?_
          refine go_iconst (v := iI (-1)) dX3_worth_106 (by decide) ?_
          refine go_iload dX3_worth_107 rfl ?_
          refine go_isub dX3_worth_109 ?_
          refine go_iald dX3_worth_110 hb.2.2.1 (by rw [e1]; exact vp_iI (by omega)) ?_
          refine go_iast dX3_worth_111 hb.2.2.2.1 (vp_iI (by omega)) ?_
          refine go_iincI dX3_worth_112 rfl (Nat.le_of_ble_eq_true rfl) rfl ?_
          refine go_goto (tgt := 272) dX3_worth_115 (by decide) ?_
          refine go_iincI dX3_worth_272 rfl (Nat.le_of_ble_eq_true rfl) rfl ?_
          refine go_goto (tgt := 51) dX3_worth_275 (by decide) ?_
          rw [cl_n k (by omega), e1, cl_n j (by omega), sI_same, sI_sI, sI_ne _ _ _ _ (by omega), hE j hj]
          simp only [List.set, iI_add]
          exact h _
        · exfalso
          rw [iI_lt0 (by omega)] at h94
          omega
theorem s_ans {l : Launch} {D : va_G} {cA ad : Nat → Nat} {d : Nat} {τ : AS} {K : Option Value → AS → Prop} {b : Nat} {xs : Nat → Int32} {cd : List Int} {p k : Nat} {z : Int} {r : Nat → Int32} (hR : RO τ) (hb : LB b) (hL : LwC τ b cd) (hcd : cd.length ≤ 240) (hx : cd[p]? = some (-22)) (hk : k < 63) (hz : r k = iI z) (hK : K (some (.int (iI z))) (sI τ (b + 3) r)) : hdW l D cA ad d τ b xs K p (k + 1) r := by
  intro v9
  have hp := (List.getElem?_eq_some_iff.mp hx).1
  have e1 : iI ((k + 1 : Nat) : Int) - iI 1 = iI (k : Int) := by rw [iI_sub]; congr 1; omega
  refine go_iload dX3_worth_51 rfl ?_
  refine go_aload_n dX3_worth_53 rfl ?_
  refine go_getI fX3_35 dX3_worth_54 hb.1 ?_
  refine go_icmp_ge (tgt := 278) dX3_worth_57 (by decide) (fun h57 => ?_) (fun h57 => ?_)
  · exfalso
    rw [sI_ne _ _ _ _ (by omega), hL.1, iI_le (by omega)] at h57
    omega
  · refine go_iload dX3_worth_60 rfl ?_
    refine go_aload_n dX3_worth_62 rfl ?_
    refine go_getR fX3_26 dX3_worth_63 hb.1 (hR _ _ _ hb.2.2.2.2.2.2) ?_
    refine go_alen1 dX3_worth_66 hb.2.2.2.1 ?_
    refine go_icmp_ge (tgt := 278) dX3_worth_67 (by decide) (fun h67 => ?_) (fun h67 => ?_)
    · exfalso
      rw [iI_ofNat, iI_le (by omega)] at h67
      omega
    · refine go_aload_n dX3_worth_70 rfl ?_
      refine go_getR fX3_9 dX3_worth_71 hb.1 (hR _ _ _ hb.2.2.2.2.1) ?_
      refine go_iload dX3_worth_74 rfl ?_
      refine go_iald dX3_worth_76 hb.2.1 (vp_iI (by omega)) ?_
      rw [cl_n p (by omega), sI_ne _ _ _ _ (by omega), hL.2 p _ hx]
      refine go_istore dX3_worth_77 (Nat.le_of_ble_eq_true rfl) rfl ?_
      refine go_iload dX3_worth_79 rfl ?_
      refine go_bipush (v := iI (-6)) dX3_worth_81 (by decide) ?_
      refine go_icmp_lt (tgt := 118) dX3_worth_83 (by decide) (fun h83 => ?_) (fun h83 => ?_)
      · refine go_iload dX3_worth_118 rfl ?_
        refine go_iconst (v := iI 1) dX3_worth_120 (by decide) ?_
        refine go_icmp_ge (tgt := 126) dX3_worth_121 (by decide) (fun h121 => ?_) (fun h121 => ?_)
        · refine go_iload dX3_worth_126 rfl ?_
          refine go_bipush (v := iI (-22)) dX3_worth_128 (by decide) ?_
          refine go_icmp_ne (tgt := 143) dX3_worth_130 (by decide) (fun h130 => ?_) (fun h130 => ?_)
          · exfalso
            rw [iI_eq (by omega)] at h130
            omega
          · refine go_aload_n dX3_worth_133 rfl ?_
            refine go_getR fX3_26 dX3_worth_134 hb.1 (hR _ _ _ hb.2.2.2.2.2.2) ?_
            refine go_iload dX3_worth_137 rfl ?_
            refine go_iconst (v := iI 1) dX3_worth_139 (by decide) ?_
            refine go_isub dX3_worth_140 ?_
            refine go_iald dX3_worth_141 hb.2.2.2.1 (by rw [e1]; exact vp_iI (by omega)) ?_
            refine go_iret rfl rfl dX3_worth_142 ?_
            rw [e1, cl_n k (by omega), sI_same, hz]
            exact hK
        · exfalso
          rw [iI_le (by omega)] at h121
          omega
      · exfalso
        rw [iI_lt (by omega)] at h83
        omega
theorem s_not {l : Launch} {D : va_G} {cA ad : Nat → Nat} {d : Nat} {τ : AS} {K : Option Value → AS → Prop} {b : Nat} {xs : Nat → Int32} {cd : List Int} {p k : Nat} {z : Int} {r : Nat → Int32} (hR : RO τ) (hb : LB b) (hL : LwC τ b cd) (hcd : cd.length ≤ 240) (hx : cd[p]? = some (-18)) (hk : k < 63) (hz : r k = iI z) (h : hdW l D cA ad d τ b xs K (p + 1) (k + 1) (upd r k (iI (1 - z)))) : hdW l D cA ad d τ b xs K p (k + 1) r := by
  intro v9
  have hp := (List.getElem?_eq_some_iff.mp hx).1
  have e1 : iI ((k + 1 : Nat) : Int) - iI 1 = iI (k : Int) := by rw [iI_sub]; congr 1; omega
  refine go_iload dX3_worth_51 rfl ?_
  refine go_aload_n dX3_worth_53 rfl ?_
  refine go_getI fX3_35 dX3_worth_54 hb.1 ?_
  refine go_icmp_ge (tgt := 278) dX3_worth_57 (by decide) (fun h57 => ?_) (fun h57 => ?_)
  · exfalso
    rw [sI_ne _ _ _ _ (by omega), hL.1, iI_le (by omega)] at h57
    omega
  · refine go_iload dX3_worth_60 rfl ?_
    refine go_aload_n dX3_worth_62 rfl ?_
    refine go_getR fX3_26 dX3_worth_63 hb.1 (hR _ _ _ hb.2.2.2.2.2.2) ?_
    refine go_alen1 dX3_worth_66 hb.2.2.2.1 ?_
    refine go_icmp_ge (tgt := 278) dX3_worth_67 (by decide) (fun h67 => ?_) (fun h67 => ?_)
    · exfalso
      rw [iI_ofNat, iI_le (by omega)] at h67
      omega
    · refine go_aload_n dX3_worth_70 rfl ?_
      refine go_getR fX3_9 dX3_worth_71 hb.1 (hR _ _ _ hb.2.2.2.2.1) ?_
      refine go_iload dX3_worth_74 rfl ?_
      refine go_iald dX3_worth_76 hb.2.1 (vp_iI (by omega)) ?_
      rw [cl_n p (by omega), sI_ne _ _ _ _ (by omega), hL.2 p _ hx]
      refine go_istore dX3_worth_77 (Nat.le_of_ble_eq_true rfl) rfl ?_
      refine go_iload dX3_worth_79 rfl ?_
      refine go_bipush (v := iI (-6)) dX3_worth_81 (by decide) ?_
      refine go_icmp_lt (tgt := 118) dX3_worth_83 (by decide) (fun h83 => ?_) (fun h83 => ?_)
      · refine go_iload dX3_worth_118 rfl ?_
        refine go_iconst (v := iI 1) dX3_worth_120 (by decide) ?_
        refine go_icmp_ge (tgt := 126) dX3_worth_121 (by decide) (fun h121 => ?_) (fun h121 => ?_)
        · refine go_iload dX3_worth_126 rfl ?_
          refine go_bipush (v := iI (-22)) dX3_worth_128 (by decide) ?_
          refine go_icmp_ne (tgt := 143) dX3_worth_130 (by decide) (fun h130 => ?_) (fun h130 => ?_)
          · refine go_iload dX3_worth_143 rfl ?_
            refine go_bipush (v := iI (-18)) dX3_worth_145 (by decide) ?_
            refine go_icmp_ne (tgt := 173) dX3_worth_147 (by decide) (fun h147 => ?_) (fun h147 => ?_)
            · exfalso
              rw [iI_eq (by omega)] at h147
              omega
            · refine go_aload_n dX3_worth_150 rfl ?_
              refine go_getR fX3_26 dX3_worth_151 hb.1 (hR _ _ _ hb.2.2.2.2.2.2) ?_
              refine go_iload dX3_worth_154 rfl ?_
              refine go_iconst (v := iI 1) dX3_worth_156 (by decide) ?_
              refine go_isub dX3_worth_157 ?_
              refine go_iconst (v := iI 1) dX3_worth_158 (by decide) ?_
              refine go_aload_n dX3_worth_159 rfl ?_
              refine go_getR fX3_26 dX3_worth_160 hb.1 (hR _ _ _ hb.2.2.2.2.2.2) ?_
              refine go_iload dX3_worth_163 rfl ?_
              refine go_iconst (v := iI 1) dX3_worth_165 (by decide) ?_
              refine go_isub dX3_worth_166 ?_
              refine go_iald dX3_worth_167 hb.2.2.2.1 (by rw [e1]; exact vp_iI (by omega)) ?_
              refine go_isub dX3_worth_168 ?_
              refine go_iast dX3_worth_169 hb.2.2.2.1 (by rw [e1]; exact vp_iI (by omega)) ?_
              refine go_goto (tgt := 272) dX3_worth_170 (by decide) ?_
              refine go_iincI dX3_worth_272 rfl (Nat.le_of_ble_eq_true rfl) rfl ?_
              refine go_goto (tgt := 51) dX3_worth_275 (by decide) ?_
              rw [e1, cl_n k (by omega), sI_same, sI_sI, hz, iI_sub]
              simp only [List.set, iI_add]
              exact h _
          · exfalso
            rw [iI_eq (by omega)] at h130
            omega
        · exfalso
          rw [iI_le (by omega)] at h121
          omega
      · exfalso
        rw [iI_lt (by omega)] at h83
        omega
theorem s_op {l : Launch} {D : va_G} {cA ad : Nat → Nat} {d : Nat} {τ : AS} {K : Option Value → AS → Prop} {b : Nat} {xs : Nat → Int32} {cd : List Int} {p k : Nat} {o a b2 : Int} {r : Nat → Int32} (hR : RO τ) (hb : LB b) (hL : LwC τ b cd) (hcd : cd.length ≤ 240) (hx : cd[p]? = some o) (ho : o = -11 ∨ o = -12 ∨ o = -13 ∨ o = -14 ∨ o = -15 ∨ o = -16 ∨ o = -17 ∨ o = -19 ∨ o = -20) (hk : k < 62) (hz1 : r k = iI a) (hz2 : r (k + 1) = iI b2) (ha : bd6 a) (hb2 : bd6 b2) (h : hdW l D cA ad d τ b xs K (p + 1) (k + 1) (upd r k (iI (opV o a b2)))) : hdW l D cA ad d τ b xs K p (k + 2) r := by
  intro v9
  have hp := (List.getElem?_eq_some_iff.mp hx).1
  have e0 : iI ((k + 2 : Nat) : Int) + iI (-1) = iI ((k + 1 : Nat) : Int) := by rw [iI_add]; congr 1; omega
  have e1 : iI ((k + 1 : Nat) : Int) - iI 1 = iI (k : Int) := by rw [iI_sub]; congr 1; omega
  refine go_iload dX3_worth_51 rfl ?_
  refine go_aload_n dX3_worth_53 rfl ?_
  refine go_getI fX3_35 dX3_worth_54 hb.1 ?_
  refine go_icmp_ge (tgt := 278) dX3_worth_57 (by decide) (fun h57 => ?_) (fun h57 => ?_)
  · exfalso
    rw [sI_ne _ _ _ _ (by omega), hL.1, iI_le (by omega)] at h57
    omega
  · refine go_iload dX3_worth_60 rfl ?_
    refine go_aload_n dX3_worth_62 rfl ?_
    refine go_getR fX3_26 dX3_worth_63 hb.1 (hR _ _ _ hb.2.2.2.2.2.2) ?_
    refine go_alen1 dX3_worth_66 hb.2.2.2.1 ?_
    refine go_icmp_ge (tgt := 278) dX3_worth_67 (by decide) (fun h67 => ?_) (fun h67 => ?_)
    · exfalso
      rw [iI_ofNat, iI_le (by omega)] at h67
      omega
    · refine go_aload_n dX3_worth_70 rfl ?_
      refine go_getR fX3_9 dX3_worth_71 hb.1 (hR _ _ _ hb.2.2.2.2.1) ?_
      refine go_iload dX3_worth_74 rfl ?_
      refine go_iald dX3_worth_76 hb.2.1 (vp_iI (by omega)) ?_
      rw [cl_n p (by omega), sI_ne _ _ _ _ (by omega), hL.2 p _ hx]
      refine go_istore dX3_worth_77 (Nat.le_of_ble_eq_true rfl) rfl ?_
      refine go_iload dX3_worth_79 rfl ?_
      refine go_bipush (v := iI (-6)) dX3_worth_81 (by decide) ?_
      refine go_icmp_lt (tgt := 118) dX3_worth_83 (by decide) (fun h83 => ?_) (fun h83 => ?_)
      · refine go_iload dX3_worth_118 rfl ?_
        refine go_iconst (v := iI 1) dX3_worth_120 (by decide) ?_
        refine go_icmp_ge (tgt := 126) dX3_worth_121 (by decide) (fun h121 => ?_) (fun h121 => ?_)
        · refine go_iload dX3_worth_126 rfl ?_
          refine go_bipush (v := iI (-22)) dX3_worth_128 (by decide) ?_
          refine go_icmp_ne (tgt := 143) dX3_worth_130 (by decide) (fun h130 => ?_) (fun h130 => ?_)
          · refine go_iload dX3_worth_143 rfl ?_
            refine go_bipush (v := iI (-18)) dX3_worth_145 (by decide) ?_
            refine go_icmp_ne (tgt := 173) dX3_worth_147 (by decide) (fun h147 => ?_) (fun h147 => ?_)
            · refine go_iload dX3_worth_173 rfl ?_
              refine go_bipush (v := iI (-21)) dX3_worth_175 (by decide) ?_
              refine go_icmp_ne (tgt := 231) dX3_worth_177 (by decide) (fun h177 => ?_) (fun h177 => ?_)
              · refine go_iload dX3_worth_231 rfl ?_
                refine go_iconst (v := iI 2) dX3_worth_233 (by decide) ?_
                refine go_icmp_lt (tgt := 272) dX3_worth_234 (by decide) (fun h234 => ?_) (fun h234 => ?_)
                · exfalso
                  rw [iI_lt (by omega)] at h234
                  omega
                · refine go_iincI dX3_worth_237 rfl (Nat.le_of_ble_eq_true rfl) rfl ?_
                  simp only [List.set]
                  rw [e0]
                  refine go_aload_n dX3_worth_240 rfl ?_
                  refine go_getR fX3_26 dX3_worth_241 hb.1 (hR _ _ _ hb.2.2.2.2.2.2) ?_
                  refine go_iload dX3_worth_244 rfl ?_
                  refine go_iconst (v := iI 1) dX3_worth_246 (by decide) ?_
                  refine go_isub dX3_worth_247 ?_
                  rw [e1]
                  refine go_iload dX3_worth_248 rfl ?_
                  refine go_aload_n dX3_worth_250 rfl ?_
                  refine go_getR fX3_26 dX3_worth_251 hb.1 (hR _ _ _ hb.2.2.2.2.2.2) ?_
                  refine go_iload dX3_worth_254 rfl ?_
                  refine go_iconst (v := iI 1) dX3_worth_256 (by decide) ?_
                  refine go_isub dX3_worth_257 ?_
                  rw [e1]
                  refine go_iald dX3_worth_258 hb.2.2.2.1 (vp_iI (by omega)) ?_
                  rw [cl_n k (by omega), sI_same, hz1]
                  refine go_i2l dX3_worth_259 ?_
                  refine go_aload_n dX3_worth_260 rfl ?_
                  refine go_getR fX3_26 dX3_worth_261 hb.1 (hR _ _ _ hb.2.2.2.2.2.2) ?_
                  refine go_iload dX3_worth_264 rfl ?_
                  refine go_iald dX3_worth_266 hb.2.2.2.1 (vp_iI (by omega)) ?_
                  rw [cl_n (k + 1) (by omega), sI_same, hz2]
                  refine go_i2l dX3_worth_267 ?_
                  refine go_callS (as := [_, _, _]) wX3_43 dX3_worth_268 rfl rfl (Nat.le_of_ble_eq_true rfl) (ct_X3_worked ho ha hb2 ?_)
                  refine go_iast dX3_worth_271 hb.2.2.2.1 (vp_iI (by omega)) ?_
                  refine go_iincI dX3_worth_272 rfl (Nat.le_of_ble_eq_true rfl) rfl ?_
                  refine go_goto (tgt := 51) dX3_worth_275 (by decide) ?_
                  rw [cl_n k (by omega), sI_same, sI_sI]
                  simp only [List.set, iI_add]
                  exact h _
              · exfalso
                rw [iI_eq (by omega)] at h177
                omega
            · exfalso
              rw [iI_eq (by omega)] at h147
              omega
          · exfalso
            rw [iI_eq (by omega)] at h130
            omega
        · exfalso
          rw [iI_le (by omega)] at h121
          omega
      · exfalso
        rw [iI_lt (by omega)] at h83
        omega
theorem s_go {l : Launch} {D : va_G} {cA ad : Nat → Nat} {d : Nat} {τ : AS} {K : Option Value → AS → Prop} {b : Nat} {xs : Nat → Int32} {cd : List Int} {p k : Nat} {z : Int} {r : Nat → Int32} (hR : RO τ) (hb : LB b) (hL : LwC τ b cd) (hcd : cd.length ≤ 240) (hx : cd[p]? = some (-21)) (hk : k < 63) (hz : r k = iI z) (hzr : z = 0 ∨ z = 1) (hz0 : z ≠ 0) (h : hdW l D cA ad d τ b xs K (p + 1 + 1) k r) : hdW l D cA ad d τ b xs K p (k + 1) r := by
  intro v9
  have hp := (List.getElem?_eq_some_iff.mp hx).1
  have e0 : iI ((k + 1 : Nat) : Int) + iI (-1) = iI (k : Int) := by rw [iI_add]; congr 1; omega
  have e2 : iI (p : Int) + iI 1 = iI ((p + 1 : Nat) : Int) := by rw [iI_add]; congr 1
  refine go_iload dX3_worth_51 rfl ?_
  refine go_aload_n dX3_worth_53 rfl ?_
  refine go_getI fX3_35 dX3_worth_54 hb.1 ?_
  refine go_icmp_ge (tgt := 278) dX3_worth_57 (by decide) (fun h57 => ?_) (fun h57 => ?_)
  · exfalso
    rw [sI_ne _ _ _ _ (by omega), hL.1, iI_le (by omega)] at h57
    omega
  · refine go_iload dX3_worth_60 rfl ?_
    refine go_aload_n dX3_worth_62 rfl ?_
    refine go_getR fX3_26 dX3_worth_63 hb.1 (hR _ _ _ hb.2.2.2.2.2.2) ?_
    refine go_alen1 dX3_worth_66 hb.2.2.2.1 ?_
    refine go_icmp_ge (tgt := 278) dX3_worth_67 (by decide) (fun h67 => ?_) (fun h67 => ?_)
    · exfalso
      rw [iI_ofNat, iI_le (by omega)] at h67
      omega
    · refine go_aload_n dX3_worth_70 rfl ?_
      refine go_getR fX3_9 dX3_worth_71 hb.1 (hR _ _ _ hb.2.2.2.2.1) ?_
      refine go_iload dX3_worth_74 rfl ?_
      refine go_iald dX3_worth_76 hb.2.1 (vp_iI (by omega)) ?_
      rw [cl_n p (by omega), sI_ne _ _ _ _ (by omega), hL.2 p _ hx]
      refine go_istore dX3_worth_77 (Nat.le_of_ble_eq_true rfl) rfl ?_
      refine go_iload dX3_worth_79 rfl ?_
      refine go_bipush (v := iI (-6)) dX3_worth_81 (by decide) ?_
      refine go_icmp_lt (tgt := 118) dX3_worth_83 (by decide) (fun h83 => ?_) (fun h83 => ?_)
      · refine go_iload dX3_worth_118 rfl ?_
        refine go_iconst (v := iI 1) dX3_worth_120 (by decide) ?_
        refine go_icmp_ge (tgt := 126) dX3_worth_121 (by decide) (fun h121 => ?_) (fun h121 => ?_)
        · refine go_iload dX3_worth_126 rfl ?_
          refine go_bipush (v := iI (-22)) dX3_worth_128 (by decide) ?_
          refine go_icmp_ne (tgt := 143) dX3_worth_130 (by decide) (fun h130 => ?_) (fun h130 => ?_)
          · refine go_iload dX3_worth_143 rfl ?_
            refine go_bipush (v := iI (-18)) dX3_worth_145 (by decide) ?_
            refine go_icmp_ne (tgt := 173) dX3_worth_147 (by decide) (fun h147 => ?_) (fun h147 => ?_)
            · refine go_iload dX3_worth_173 rfl ?_
              refine go_bipush (v := iI (-21)) dX3_worth_175 (by decide) ?_
              refine go_icmp_ne (tgt := 231) dX3_worth_177 (by decide) (fun h177 => ?_) (fun h177 => ?_)
              · exfalso
                rw [iI_eq (by omega)] at h177
                omega
              · refine go_iincI dX3_worth_180 rfl (Nat.le_of_ble_eq_true rfl) rfl ?_
                refine go_iincI dX3_worth_183 rfl (Nat.le_of_ble_eq_true rfl) rfl ?_
                simp only [List.set]
                rw [e0, e2]
                refine go_aload_n dX3_worth_186 rfl ?_
                refine go_getR fX3_26 dX3_worth_187 hb.1 (hR _ _ _ hb.2.2.2.2.2.2) ?_
                refine go_iload dX3_worth_190 rfl ?_
                refine go_iald dX3_worth_192 hb.2.2.2.1 (vp_iI (by omega)) ?_
                rw [cl_n k (by omega), sI_same, hz]
                refine go_if_ne (tgt := 272) dX3_worth_193 (by decide) (fun h193 => ?_) (fun h193 => ?_)
                · refine go_iincI dX3_worth_272 rfl (Nat.le_of_ble_eq_true rfl) rfl ?_
                  refine go_goto (tgt := 51) dX3_worth_275 (by decide) ?_
                  simp only [List.set, iI_add]
                  exact h _
                · exfalso
                  rw [iI_eq0 (by omega)] at h193
                  exact hz0 h193
            · exfalso
              rw [iI_eq (by omega)] at h147
              omega
          · exfalso
            rw [iI_eq (by omega)] at h130
            omega
        · exfalso
          rw [iI_le (by omega)] at h121
          omega
      · exfalso
        rw [iI_lt (by omega)] at h83
        omega
theorem s_skip {l : Launch} {D : va_G} {cA ad : Nat → Nat} {d : Nat} {τ : AS} {K : Option Value → AS → Prop} {b : Nat} {xs : Nat → Int32} {cd : List Int} {p k y : Nat} {z : Int} {r : Nat → Int32} (hR : RO τ) (hb : LB b) (hL : LwC τ b cd) (hcd : cd.length ≤ 240) (hx : cd[p]? = some (-21)) (hy : cd[p + 1]? = some (y : Int)) (hk : k < 63) (hz : r k = iI z) (h0 : z = 0) (hyp : p + 1 < y) (hy9 : y ≤ 1000) (h : hdW l D cA ad d τ b xs K y k r) : hdW l D cA ad d τ b xs K p (k + 1) r := by
  intro v9
  have hp := (List.getElem?_eq_some_iff.mp hx).1
  have hpy := (List.getElem?_eq_some_iff.mp hy).1
  have e0 : iI ((k + 1 : Nat) : Int) + iI (-1) = iI (k : Int) := by rw [iI_add]; congr 1; omega
  have e2 : iI (p : Int) + iI 1 = iI ((p + 1 : Nat) : Int) := by rw [iI_add]; congr 1
  have e3 : iI (y : Int) - iI 1 + iI 1 = iI (y : Int) := by rw [iI_sub, iI_add]; congr 1; omega
  refine go_iload dX3_worth_51 rfl ?_
  refine go_aload_n dX3_worth_53 rfl ?_
  refine go_getI fX3_35 dX3_worth_54 hb.1 ?_
  refine go_icmp_ge (tgt := 278) dX3_worth_57 (by decide) (fun h57 => ?_) (fun h57 => ?_)
  · exfalso
    rw [sI_ne _ _ _ _ (by omega), hL.1, iI_le (by omega)] at h57
    omega
  · refine go_iload dX3_worth_60 rfl ?_
    refine go_aload_n dX3_worth_62 rfl ?_
    refine go_getR fX3_26 dX3_worth_63 hb.1 (hR _ _ _ hb.2.2.2.2.2.2) ?_
    refine go_alen1 dX3_worth_66 hb.2.2.2.1 ?_
    refine go_icmp_ge (tgt := 278) dX3_worth_67 (by decide) (fun h67 => ?_) (fun h67 => ?_)
    · exfalso
      rw [iI_ofNat, iI_le (by omega)] at h67
      omega
    · refine go_aload_n dX3_worth_70 rfl ?_
      refine go_getR fX3_9 dX3_worth_71 hb.1 (hR _ _ _ hb.2.2.2.2.1) ?_
      refine go_iload dX3_worth_74 rfl ?_
      refine go_iald dX3_worth_76 hb.2.1 (vp_iI (by omega)) ?_
      rw [cl_n p (by omega), sI_ne _ _ _ _ (by omega), hL.2 p _ hx]
      refine go_istore dX3_worth_77 (Nat.le_of_ble_eq_true rfl) rfl ?_
      refine go_iload dX3_worth_79 rfl ?_
      refine go_bipush (v := iI (-6)) dX3_worth_81 (by decide) ?_
      refine go_icmp_lt (tgt := 118) dX3_worth_83 (by decide) (fun h83 => ?_) (fun h83 => ?_)
      · refine go_iload dX3_worth_118 rfl ?_
        refine go_iconst (v := iI 1) dX3_worth_120 (by decide) ?_
        refine go_icmp_ge (tgt := 126) dX3_worth_121 (by decide) (fun h121 => ?_) (fun h121 => ?_)
        · refine go_iload dX3_worth_126 rfl ?_
          refine go_bipush (v := iI (-22)) dX3_worth_128 (by decide) ?_
          refine go_icmp_ne (tgt := 143) dX3_worth_130 (by decide) (fun h130 => ?_) (fun h130 => ?_)
          · refine go_iload dX3_worth_143 rfl ?_
            refine go_bipush (v := iI (-18)) dX3_worth_145 (by decide) ?_
            refine go_icmp_ne (tgt := 173) dX3_worth_147 (by decide) (fun h147 => ?_) (fun h147 => ?_)
            · refine go_iload dX3_worth_173 rfl ?_
              refine go_bipush (v := iI (-21)) dX3_worth_175 (by decide) ?_
              refine go_icmp_ne (tgt := 231) dX3_worth_177 (by decide) (fun h177 => ?_) (fun h177 => ?_)
              · exfalso
                rw [iI_eq (by omega)] at h177
                omega
              · refine go_iincI dX3_worth_180 rfl (Nat.le_of_ble_eq_true rfl) rfl ?_
                refine go_iincI dX3_worth_183 rfl (Nat.le_of_ble_eq_true rfl) rfl ?_
                simp only [List.set]
                rw [e0, e2]
                refine go_aload_n dX3_worth_186 rfl ?_
                refine go_getR fX3_26 dX3_worth_187 hb.1 (hR _ _ _ hb.2.2.2.2.2.2) ?_
                refine go_iload dX3_worth_190 rfl ?_
                refine go_iald dX3_worth_192 hb.2.2.2.1 (vp_iI (by omega)) ?_
                rw [cl_n k (by omega), sI_same, hz]
                refine go_if_ne (tgt := 272) dX3_worth_193 (by decide) (fun h193 => ?_) (fun h193 => ?_)
                · rw [h0] at h193
                  exact absurd rfl h193
                · refine go_iload dX3_worth_196 rfl ?_
                  refine go_aload_n dX3_worth_198 rfl ?_
                  refine go_getI fX3_35 dX3_worth_199 hb.1 ?_
                  refine go_icmp_ge (tgt := 272) dX3_worth_202 (by decide) (fun h202 => ?_) (fun h202 => ?_)
                  · exfalso
                    rw [sI_ne _ _ _ _ (by omega), hL.1, iI_le (by omega)] at h202
                    omega
                  · refine go_aload_n dX3_worth_205 rfl ?_
                    refine go_getR fX3_9 dX3_worth_206 hb.1 (hR _ _ _ hb.2.2.2.2.1) ?_
                    refine go_iload dX3_worth_209 rfl ?_
                    refine go_iald dX3_worth_211 hb.2.1 (vp_iI (by omega)) ?_
                    rw [cl_n (p + 1) (by omega), sI_ne _ _ _ _ (by omega), hL.2 _ _ hy]
                    refine go_iload dX3_worth_212 rfl ?_
                    refine go_icmp_le (tgt := 272) dX3_worth_214 (by decide) (fun h214 => ?_) (fun h214 => ?_)
                    · exfalso
                      rw [iI_le (by omega)] at h214
                      omega
                    · refine go_aload_n dX3_worth_217 rfl ?_
                      refine go_getR fX3_9 dX3_worth_218 hb.1 (hR _ _ _ hb.2.2.2.2.1) ?_
                      refine go_iload dX3_worth_221 rfl ?_
                      refine go_iald dX3_worth_223 hb.2.1 (vp_iI (by omega)) ?_
                      rw [cl_n (p + 1) (by omega), sI_ne _ _ _ _ (by omega), hL.2 _ _ hy]
                      refine go_iconst (v := iI 1) dX3_worth_224 (by decide) ?_
                      refine go_isub dX3_worth_225 ?_
                      refine go_istore dX3_worth_226 (Nat.le_of_ble_eq_true rfl) rfl ?_
                      refine go_goto (tgt := 272) dX3_worth_228 (by decide) ?_
                      refine go_iincI dX3_worth_272 rfl (Nat.le_of_ble_eq_true rfl) rfl ?_
                      refine go_goto (tgt := 51) dX3_worth_275 (by decide) ?_
                      simp only [List.set]
                      rw [e3]
                      exact h _
            · exfalso
              rw [iI_eq (by omega)] at h147
              omega
          · exfalso
            rw [iI_eq (by omega)] at h130
            omega
        · exfalso
          rw [iI_le (by omega)] at h121
          omega
      · exfalso
        rw [iI_lt (by omega)] at h83
        omega
theorem s_end {l : Launch} {D : va_G} {cA ad : Nat → Nat} {d : Nat} {τ : AS} {K : Option Value → AS → Prop} {b : Nat} {xs : Nat → Int32} {cd : List Int} {p k : Nat} {r : Nat → Int32} (hR : RO τ) (hb : LB b) (hL : LwC τ b cd) (hcd : cd.length ≤ 240) (hp : cd.length ≤ p) (hp2 : p ≤ 1000) (hK : K (some (.int (iI 0))) (sI τ (b + 3) r)) : hdW l D cA ad d τ b xs K p k r := by
  intro v9
  refine go_iload dX3_worth_51 rfl ?_
  refine go_aload_n dX3_worth_53 rfl ?_
  refine go_getI fX3_35 dX3_worth_54 hb.1 ?_
  refine go_icmp_ge (tgt := 278) dX3_worth_57 (by decide) (fun h57 => ?_) (fun h57 => ?_)
  · refine go_iconst (v := iI 0) dX3_worth_278 (by decide) ?_
    refine go_iret rfl rfl dX3_worth_279 ?_
    exact hK
  · exfalso
    rw [sI_ne _ _ _ _ (by omega), hL.1, iI_le (by omega)] at h57
    omega
def At (cd : List Int) (p : Nat) (c : List Int) : Prop := ∀ i x, c[i]? = some x → cd[p + i]? = some x
theorem At.l {cd x y : List Int} {p : Nat} (h : At cd p (x ++ y)) : At cd p x := fun i z hz => h i z (by rw [List.getElem?_append_left (List.getElem?_eq_some_iff.mp hz).1]; exact hz)
theorem At.r {cd x y : List Int} {p : Nat} (h : At cd p (x ++ y)) : At cd (p + x.length) y := fun i z hz => by
  have := h (x.length + i) z (by rw [List.getElem?_append_right (by omega), show x.length + i - x.length = i by omega]; exact hz)
  rw [show p + x.length + i = p + (x.length + i) by omega]
  exact this
theorem At.one {cd : List Int} {x : Int} {p : Nat} (h : At cd p [x]) : cd[p]? = some x := h 0 x rfl
def RunC (l : Launch) (D : va_G) (cA ad : Nat → Nat) (d : Nat) (τ : AS) (b : Nat) (xs : Nat → Int32) (K : Option Value → AS → Prop) (cd : List Int) (ev : Nat → Int) (m : Nat) (c : CV) : Prop := ∀ (p k : Nat) (r : Nat → Int32), At cd p c.1 → k + m ≤ 63 → (∀ r', (∀ i, i < k → r' i = r i) → r' k = iI (c.2 ev) → hdW l D cA ad d τ b xs K (p + c.1.length) (k + 1) r') → hdW l D cA ad d τ b xs K p k r
theorem bdK6 {kk : Bool} {z : Int} (h : bdK kk z) : bd6 z := by
  cases kk with
  | false => exact h
  | true => unfold bd6; rcases h with h | h <;> omega
theorem run_bin {l : Launch} {D : va_G} {cA ad : Nat → Nat} {d : Nat} {τ : AS} {K : Option Value → AS → Prop} {b : Nat} {xs : Nat → Int32} {cd : List Int} {ev : Nat → Int} {m m1 m2 : Nat} {o : Int} {x y : CV} (hR : RO τ) (hb : LB b) (hL : LwC τ b cd) (hcd : cd.length ≤ 240) (hx : RunC l D cA ad d τ b xs K cd ev m1 x) (hxb : bd6 (x.2 ev)) (hy : RunC l D cA ad d τ b xs K cd ev m2 y) (hyb : bd6 (y.2 ev)) (ho : o = -11 ∨ o = -12 ∨ o = -13 ∨ o = -14 ∨ o = -15 ∨ o = -16 ∨ o = -17 ∨ o = -19 ∨ o = -20) (h1 : m1 ≤ m) (h2 : m2 < m) (h3 : 1 ≤ m2) : RunC l D cA ad d τ b xs K cd ev m (cvB o x y) := by
  intro p k r hA hk h
  have hA : At cd p (x.1 ++ y.1 ++ [o]) := hA
  refine hx p k r hA.l.l (by omega) (fun r1 hr1 hv1 => ?_)
  refine hy (p + x.1.length) (k + 1) r1 hA.l.r (by omega) (fun r2 hr2 hv2 => ?_)
  have hA2 := hA.r.one
  rw [List.length_append, ← Nat.add_assoc] at hA2
  refine s_op hR hb hL hcd hA2 ho (by omega) (by rw [hr2 k (by omega)]; exact hv1) hv2 hxb hyb ?_
  have h9 := h (upd r2 k (iI (opV o (x.2 ev) (y.2 ev)))) (fun i hi => by rw [upd_ne _ _ _ _ (by omega), hr2 i (by omega), hr1 i hi]) (upd_same _ _ _)
  rw [show p + (cvB o x y).1.length = p + x.1.length + y.1.length + 1 by unfold cvB; simp only [List.length_append, List.length_cons, List.length_nil]; omega] at h9
  exact h9
theorem Ex.pos {kk : Bool} {m : Nat} {c : CV} (h : Ex kk m c) : 1 ≤ m := h (fun _ m _ => 1 ≤ m) ⟨fun m n a _ _ => a, fun m j a _ => a, fun m m1 m2 o x y _ _ _ _ _ => by omega, fun m m1 m2 o x y _ _ _ _ _ => by omega, fun m m1 m2 o x y _ _ _ _ _ => by omega, fun m m1 x _ _ => by omega⟩
theorem notk {m m1 k : Nat} {x : CV} (h : Ex true m1 x) (h1 : m1 ≤ m) (hk : k + m ≤ 63) : k < 63 := by have := h.pos; omega
theorem run_ex {l : Launch} {D : va_G} {cA ad : Nat → Nat} {d : Nat} {τ : AS} {K : Option Value → AS → Prop} {b : Nat} {xs : Nat → Int32} {cd : List Int} {ev : Nat → Int} (hR : RO τ) (hb : LB b) (hL : LwC τ b cd) (hcd : cd.length ≤ 240) (hE : LwE τ b ev) (he : ∀ j, j < 6 → bd6 (ev j)) {kk : Bool} {m : Nat} {c : CV} (hc : Ex kk m c) : bdK kk (c.2 ev) ∧ RunC l D cA ad d τ b xs K cd ev m c := by
  refine ⟨hc.bd he, ?_⟩
  refine (hc (fun kk m c => Ex kk m c ∧ RunC l D cA ad d τ b xs K cd ev m c) ⟨fun m n a b2 c2 => ⟨Ex.num a b2 c2, ?_⟩, fun m j a b2 => ⟨Ex.ltr a b2, ?_⟩, fun m m1 m2 o x y hx hy ho h1 h2 => ⟨Ex.ari hx.1 hy.1 ho h1 h2, ?_⟩, fun m m1 m2 o x y hx hy ho h1 h2 => ⟨Ex.cmp hx.1 hy.1 ho h1 h2, ?_⟩, fun m m1 m2 o x y hx hy ho h1 h2 => ⟨Ex.log hx.1 hy.1 ho h1 h2, ?_⟩, fun m m1 x hx h1 => ⟨Ex.neg hx.1 h1, ?_⟩⟩).2
  · intro p k r hA hk h
    exact s_num hR hb hL hcd (At.one hA) b2 c2 (by omega) (h _ (fun i hi => upd_ne _ _ _ _ (by omega)) (upd_same _ _ _))
  · intro p k r hA hk h
    exact s_ltr hR hb hL hcd hE (At.one hA) b2 (by omega) (h _ (fun i hi => upd_ne _ _ _ _ (by omega)) (upd_same _ _ _))
  · exact run_bin hR hb hL hcd hx.2 (hx.1.bd he) hy.2 (hy.1.bd he) (by omega) h1 h2 hy.1.pos
  · exact run_bin hR hb hL hcd hx.2 (hx.1.bd he) hy.2 (hy.1.bd he) (by omega) h1 h2 hy.1.pos
  · exact run_bin hR hb hL hcd hx.2 (bdK6 (hx.1.bd he)) hy.2 (bdK6 (hy.1.bd he)) (by omega) h1 h2 hy.1.pos
  · intro p k r hA hk h
    have hA : At cd p (x.1 ++ [-18]) := hA
    refine hx.2 p k r hA.l (by omega) (fun r1 hr1 hv1 => ?_)
    have hm : 1 ≤ m1 ∨ m1 = 0 := by omega
    refine s_not hR hb hL hcd hA.r.one ?_ hv1 ?_
    · exact notk hx.1 h1 hk
    · have h9 := h (upd r1 k (iI (1 - x.2 ev))) (fun i hi => by rw [upd_ne _ _ _ _ (by omega), hr1 i hi]) (upd_same _ _ _)
      rw [show p + (notC x).1.length = p + x.1.length + 1 by unfold notC; simp only [List.length_append, List.length_cons, List.length_nil]; omega] at h9
      exact h9
/-! the code of a law, clause by clause -/
def clX (n : Nat) (c : CL) : List Int := match c.1 with
  | none => c.2.1 ++ [-22]
  | some x => x.1 ++ [-21, ((n + x.1.length + c.2.1.length + 3 : Nat) : Int)] ++ c.2.1 ++ [-22]
theorem codeCl_eq (cd : List Int) (c : CL) : codeCl cd c = cd ++ clX cd.length c := by
  obtain ⟨a, y⟩ := c
  cases a with
  | none => unfold codeCl clX; simp only [List.append_assoc]
  | some x => unfold codeCl clX; simp only [List.append_assoc, List.length_append]
theorem code_pre : ∀ (L : List CL) (cd : List Int), ∃ s, L.foldl codeCl cd = cd ++ s
  | [], cd => ⟨[], by simp⟩
  | c :: L, cd => by
    obtain ⟨s, hs⟩ := code_pre L (codeCl cd c)
    exact ⟨clX cd.length c ++ s, by rw [List.foldl_cons, hs, codeCl_eq, List.append_assoc]⟩
theorem code_at {L1 L2 : List CL} {c : CL} : At (codeL (L1 ++ c :: L2)) (codeL L1).length (clX (codeL L1).length c) := by
  intro i x hx
  unfold codeL
  rw [List.foldl_append, List.foldl_cons]
  obtain ⟨s, hs⟩ := code_pre L2 (codeCl (L1.foldl codeCl []) c)
  rw [hs, codeCl_eq, List.append_assoc, List.getElem?_append_right (by omega), show (L1.foldl codeCl []).length + i - (L1.foldl codeCl []).length = i by omega]
  unfold codeL at hx
  rw [List.getElem?_append_left (List.getElem?_eq_some_iff.mp hx).1]
  exact hx
theorem law_run {l : Launch} {D : va_G} {cA ad : Nat → Nat} {d : Nat} {τ : AS} {K : Option Value → AS → Prop} {b : Nat} {xs : Nat → Int32} {ev : Nat → Int} {Lx : List CL} (hR : RO τ) (hb : LB b) (hL : LwC τ b (codeL Lx)) (hcd : (codeL Lx).length ≤ 240) (hE : LwE τ b ev) (he : ∀ j, j < 6 → bd6 (ev j)) (hok : ∀ c, c ∈ Lx → ClOK c) (hK : ∀ r, K (some (.int (iI (lawV ev Lx)))) (sI τ (b + 3) r)) : ∀ (L2 L1 : List CL) (r : Nat → Int32), Lx = L1 ++ L2 → lawV ev Lx = lawV ev L2 → hdW l D cA ad d τ b xs K (codeL L1).length 0 r
  | [], L1, r, h1, h2 => by
    rw [List.append_nil] at h1
    subst h1
    rw [h2] at hK
    exact s_end hR hb hL hcd (Nat.le_refl _) (by omega) (hK r)
  | c :: L2, L1, r, h1, h2 => by
    have hA := code_at (L1 := L1) (L2 := L2) (c := c)
    rw [← h1] at hA
    have hc := hok c (by rw [h1]; exact List.mem_append_right _ (List.mem_cons_self ..))
    have hy := (run_ex (l := l) (D := D) (cA := cA) (ad := ad) (d := d) (xs := xs) (K := K) hR hb hL hcd hE he hc.1).2
    obtain ⟨a, y⟩ := c
    cases a with
    | none =>
      have hA : At (codeL Lx) (codeL L1).length (y.1 ++ [-22]) := hA
      refine hy _ 0 r hA.l (by omega) (fun r1 _ hv => ?_)
      refine s_ans hR hb hL hcd hA.r.one (by omega) hv ?_
      rw [h2] at hK
      exact hK r1
    | some x =>
      have hx := run_ex (l := l) (D := D) (cA := cA) (ad := ad) (d := d) (xs := xs) (K := K) hR hb hL hcd hE he (hc.2 x rfl)
      have hA : At (codeL Lx) (codeL L1).length (x.1 ++ [-21, (((codeL L1).length + x.1.length + y.1.length + 3 : Nat) : Int)] ++ y.1 ++ [-22]) := hA
      refine hx.2 _ 0 r hA.l.l.l (by omega) (fun r1 _ hv => ?_)
      have hs := hA.l.l.r
      have hxr : x.2 ev = 0 ∨ x.2 ev = 1 := hx.1
      by_cases hz : x.2 ev = 0
      · refine s_skip (y := (codeL L1).length + x.1.length + y.1.length + 3) hR hb hL hcd (hs 0 _ rfl) (hs 1 _ rfl) (by omega) hv hz (by omega) ?_ ?_
        · have := (List.getElem?_eq_some_iff.mp (hs 0 _ rfl)).1
          have h3 := hA.r 0 _ rfl
          have := (List.getElem?_eq_some_iff.mp h3).1
          simp only [List.length_append, List.length_cons, List.length_nil] at this
          omega
        · have ih := law_run (l := l) (D := D) (cA := cA) (ad := ad) (d := d) (xs := xs) hR hb hL hcd hE he hok hK L2 (L1 ++ [(some x, y)]) r1 (by rw [h1, List.append_assoc]; rfl) (by rw [h2]; show (if x.2 ev ≠ 0 then _ else _) = _; rw [if_neg (by omega)])
          rw [codeL_push, codeCl_eq, List.length_append] at ih
          rw [show (codeL L1).length + (clX (codeL L1).length (some x, y)).length = (codeL L1).length + x.1.length + y.1.length + 3 by unfold clX; simp only [List.length_append, List.length_cons, List.length_nil]; omega] at ih
          exact ih
      · refine s_go hR hb hL hcd (hs 0 _ rfl) (by omega) hv hxr hz ?_
        have hA3 := hA.l.r
        refine hy _ 0 r1 (by rw [List.length_append, ← Nat.add_assoc] at hA3; exact hA3) (by omega) (fun r2 _ hv2 => ?_)
        have hA4 := hA.r.one
        simp only [List.length_append, List.length_cons, List.length_nil] at hA4
        refine s_ans hR hb hL hcd (show _ from by rw [show (codeL L1).length + x.1.length + 0 + 1 + 1 + y.1.length = (codeL L1).length + (x.1.length + (0 + 1 + 1) + y.1.length) by omega]; exact hA4) (by omega) hv2 ?_
        rw [h2, show lawV ev ((some x, y) :: L2) = y.2 ev from if_pos hz] at hK
        exact hK r2
theorem cl_1 : (iI 1).toNatClampNeg = 1 := by decide
theorem cl_2 : (iI 2).toNatClampNeg = 2 := by decide
theorem cl_3 : (iI 3).toNatClampNeg = 3 := by decide
theorem cl_4 : (iI 4).toNatClampNeg = 4 := by decide
theorem cl_5 : (iI 5).toNatClampNeg = 5 := by decide
theorem ct_X3_worth {l : Launch} {D : va_G} {cA ad : Nat → Nat} {d : Nat} {σ : AS} {K : Option Value → AS → Prop} {b : Nat} {ev : Nat → Int} {Lx : List CL} (hR : RO σ) (hb : LB b) (hL : LwC σ b (codeL Lx)) (hcd : (codeL Lx).length ≤ 240) (he : ∀ j, j < 6 → bd6 (ev j)) (hok : ∀ c, c ∈ Lx → ClOK c) (hK : ∀ τ', Fr (b + 2) (b + 3) σ τ' → K (some (.int (iI (lawV ev Lx)))) τ') : Call l D cA ad (d + 1) mX3_worth [.ref b, .int (iI (ev 0)), .int (iI (ev 1)), .int (iI (ev 2)), .int (iI (ev 3)), .int (iI (ev 4)), .int (iI (ev 5))] σ K := by
  refine call_go (by decide) (Nat.le_of_ble_eq_true rfl) (show Go l D cA ad (d + 1) mX3_worth 0 [.ref b, .int (iI (ev 0)), .int (iI (ev 1)), .int (iI (ev 2)), .int (iI (ev 3)), .int (iI (ev 4)), .int (iI (ev 5)), .null, .null, .null] [] σ K from ?_)
  refine go_aload_n dX3_worth_0 rfl ?_
  refine go_getR fX3_23 dX3_worth_1 hb.1 (hR _ _ _ hb.2.2.2.2.2.1) ?_
  refine go_iconst (v := iI 0) dX3_worth_4 (by decide) ?_
  refine go_iload_n dX3_worth_5 rfl ?_
  refine go_iast dX3_worth_6 hb.2.2.1 (vp_iI (by decide)) ?_
  refine go_aload_n dX3_worth_7 rfl ?_
  refine go_getR fX3_23 dX3_worth_8 hb.1 (hR _ _ _ hb.2.2.2.2.2.1) ?_
  refine go_iconst (v := iI 1) dX3_worth_11 (by decide) ?_
  refine go_iload_n dX3_worth_12 rfl ?_
  refine go_iast dX3_worth_13 hb.2.2.1 (vp_iI (by decide)) ?_
  refine go_aload_n dX3_worth_14 rfl ?_
  refine go_getR fX3_23 dX3_worth_15 hb.1 (hR _ _ _ hb.2.2.2.2.2.1) ?_
  refine go_iconst (v := iI 2) dX3_worth_18 (by decide) ?_
  refine go_iload_n dX3_worth_19 rfl ?_
  refine go_iast dX3_worth_20 hb.2.2.1 (vp_iI (by decide)) ?_
  refine go_aload_n dX3_worth_21 rfl ?_
  refine go_getR fX3_23 dX3_worth_22 hb.1 (hR _ _ _ hb.2.2.2.2.2.1) ?_
  refine go_iconst (v := iI 3) dX3_worth_25 (by decide) ?_
  refine go_iload dX3_worth_26 rfl ?_
  refine go_iast dX3_worth_28 hb.2.2.1 (vp_iI (by decide)) ?_
  refine go_aload_n dX3_worth_29 rfl ?_
  refine go_getR fX3_23 dX3_worth_30 hb.1 (hR _ _ _ hb.2.2.2.2.2.1) ?_
  refine go_iconst (v := iI 4) dX3_worth_33 (by decide) ?_
  refine go_iload dX3_worth_34 rfl ?_
  refine go_iast dX3_worth_36 hb.2.2.1 (vp_iI (by decide)) ?_
  refine go_aload_n dX3_worth_37 rfl ?_
  refine go_getR fX3_23 dX3_worth_38 hb.1 (hR _ _ _ hb.2.2.2.2.2.1) ?_
  refine go_iconst (v := iI 5) dX3_worth_41 (by decide) ?_
  refine go_iload dX3_worth_42 rfl ?_
  refine go_iast dX3_worth_44 hb.2.2.1 (vp_iI (by decide)) ?_
  refine go_iconst (v := iI 0) dX3_worth_45 (by decide) ?_
  refine go_istore dX3_worth_46 (Nat.le_of_ble_eq_true rfl) rfl ?_
  refine go_iconst (v := iI 0) dX3_worth_48 (by decide) ?_
  refine go_istore dX3_worth_49 (Nat.le_of_ble_eq_true rfl) rfl ?_
  simp only [cl_0, cl_1, cl_2, cl_3, cl_4, cl_5, sI_same, sI_sI, List.set]
  generalize hrl : upd (upd (upd (upd (upd (upd (σ.1 (b + 2)) 0 (iI (ev 0))) 1 (iI (ev 1))) 2 (iI (ev 2))) 3 (iI (ev 3))) 4 (iI (ev 4))) 5 (iI (ev 5)) = rl
  have hs3 : sI σ (b + 2) rl = sI (sI σ (b + 2) rl) (b + 3) ((sI σ (b + 2) rl).1 (b + 3)) := (sI_self _ _).symm
  rw [hs3]
  refine law_run (xs := fun j => iI (ev j)) (b := b) (ev := ev) (Lx := Lx) (RO_sI hR) hb ⟨by rw [sI_ne _ _ _ _ (by omega)]; exact hL.1, fun i x hx => by rw [sI_ne _ _ _ _ (by omega)]; exact hL.2 i x hx⟩ hcd (fun j hj => ?_) he hok (fun r => hK _ ((Fr.rf.sI (by omega) (by omega)).sI (by omega) (by omega))) Lx [] _ rfl rfl _
  rw [sI_same, ← hrl]
  rcases (show j = 0 ∨ j = 1 ∨ j = 2 ∨ j = 3 ∨ j = 4 ∨ j = 5 by omega) with rfl | rfl | rfl | rfl | rfl | rfl <;> simp [upd]
