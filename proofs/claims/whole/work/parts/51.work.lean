theorem lg_le {x y : Int64} : lg_cmp x y ≤ 0 ↔ x.toInt ≤ y.toInt := by
  rcases Int.lt_trichotomy x.toInt y.toInt with h | h | h
  · rw [show lg_cmp x y = -1 by unfold lg_cmp; rw [if_neg (by show ¬ y < x; rw [Int64.lt_iff_toInt_lt]; omega), if_neg (fun q => by rw [q] at h; omega)]]
    exact ⟨fun _ => by omega, fun _ => by decide⟩
  · rw [lcmp0.mpr (Int64.toInt_inj.mp h)]
    exact ⟨fun _ => by omega, fun _ => by decide⟩
  · rw [show lg_cmp x y = 1 by unfold lg_cmp; rw [if_pos (by show y < x; rw [Int64.lt_iff_toInt_lt]; omega)]]
    exact ⟨fun q => absurd q (by decide), fun _ => by omega⟩
theorem lg_ge {x y : Int64} : 0 ≤ lg_cmp x y ↔ y.toInt ≤ x.toInt := by
  rcases Int.lt_trichotomy x.toInt y.toInt with h | h | h
  · rw [show lg_cmp x y = -1 by unfold lg_cmp; rw [if_neg (by show ¬ y < x; rw [Int64.lt_iff_toInt_lt]; omega), if_neg (fun q => by rw [q] at h; omega)]]
    exact ⟨fun q => absurd q (by decide), fun _ => by omega⟩
  · rw [lcmp0.mpr (Int64.toInt_inj.mp h)]
    exact ⟨fun _ => by omega, fun _ => by decide⟩
  · rw [show lg_cmp x y = 1 by unfold lg_cmp; rw [if_pos (by show y < x; rw [Int64.lt_iff_toInt_lt]; omega)]]
    exact ⟨fun _ => by omega, fun _ => by decide⟩
theorem l2i_of (R : Int64) : R.toInt32 = iI R.toInt := by
  have := l2i_lL R.toInt
  rw [lL_of] at this
  exact this
theorem m6 : (1000000 : Int64).toInt = 1000000 ∧ (-1000000 : Int64).toInt = -1000000 := by decide
theorem w166 {l : Launch} {D : va_G} {cA ad : Nat → Nat} {d : Nat} {σ : AS} {K : Option Value → AS → Prop} {A B R : Int64} {x : Int32} (hK : K (some (.int (iI (clampV R.toInt)))) σ) : Go l D cA ad d mX3_worked 166 [.int x, .long A, .null, .long B, .null, .long R, .null] [] σ K := by
  refine go_lload dX3_worked_166 rfl ?_
  refine go_ldc2 lX3_47 dX3_worked_168 ?_
  refine go_lcmp dX3_worked_171 ?_
  refine go_if_le (tgt := 178) dX3_worked_172 (by decide) (fun h172 => ?_) (fun h172 => ?_)
  · refine go_lload dX3_worked_178 rfl ?_
    refine go_ldc2 lX3_50 dX3_worked_180 ?_
    refine go_lcmp dX3_worked_183 ?_
    refine go_if_ge (tgt := 192) dX3_worked_184 (by decide) (fun h184 => ?_) (fun h184 => ?_)
    · refine go_lload dX3_worked_192 rfl ?_
      refine go_l2i dX3_worked_194 ?_
      refine go_iret rfl rfl dX3_worked_195 ?_
      rw [lg_le, m6.1] at h172
      rw [lg_ge, m6.2] at h184
      rw [clamp_id (z := R.toInt) ⟨by omega, by omega⟩] at hK
      rw [l2i_of R]
      exact hK
    · refine go_ldc lX3_52 dX3_worked_187 ?_
      refine go_goto (tgt := 195) dX3_worked_189 (by decide) ?_
      refine go_iret rfl rfl dX3_worked_195 ?_
      rw [lg_le, m6.1] at h172
      rw [lg_ge, m6.2] at h184
      rw [show clampV R.toInt = -1000000 by unfold clampV; rw [if_neg (by omega), if_pos (by omega)]] at hK
      exact hK
  · refine go_ldc lX3_49 dX3_worked_175 ?_
    refine go_iret rfl rfl dX3_worked_177 ?_
    rw [lg_le, m6.1] at h172
    rw [show clampV R.toInt = 1000000 by unfold clampV; rw [if_pos (by omega)]] at hK
    exact hK
theorem wk_11 {l : Launch} {D : va_G} {cA ad : Nat → Nat} {d : Nat} {σ : AS} {K : Option Value → AS → Prop} {a b : Int} (ha : bd6 a) (hb : bd6 b) (hK : K (some (.int (iI (opV (-11) a b)))) σ) : Call l D cA ad d mX3_worked [.int (iI (-11)), .long (iI a).toInt64, .long (iI b).toInt64] σ K := by
  have ha0 := ha
  have hb0 := hb
  unfold bd6 at ha hb
  refine call_go (by decide) (Nat.le_of_ble_eq_true rfl) (show Go l D cA ad d mX3_worked 0 [.int (iI (-11)), .long (iI a).toInt64, .null, .long (iI b).toInt64, .null, .null, .null] [] σ K from ?_)
  refine go_iload_n dX3_worked_0 rfl ?_
  refine go_tabIn (off := 51) (tgt := 52) dX3_worked_1 (by decide) (by decide) (by decide) (by decide) ?_
  refine go_lload_n dX3_worked_52 rfl ?_
  refine go_lload_n dX3_worked_53 rfl ?_
  refine go_ladd dX3_worked_54 ?_
  refine go_lstore dX3_worked_55 (Nat.le_of_ble_eq_true rfl) rfl ?_
  refine go_goto (tgt := 166) dX3_worked_57 (by decide) ?_
  simp only [List.set]
  exact w166 (by rw [wi_add ha hb]; exact hK)
theorem wk_12 {l : Launch} {D : va_G} {cA ad : Nat → Nat} {d : Nat} {σ : AS} {K : Option Value → AS → Prop} {a b : Int} (ha : bd6 a) (hb : bd6 b) (hK : K (some (.int (iI (opV (-12) a b)))) σ) : Call l D cA ad d mX3_worked [.int (iI (-12)), .long (iI a).toInt64, .long (iI b).toInt64] σ K := by
  have ha0 := ha
  have hb0 := hb
  unfold bd6 at ha hb
  refine call_go (by decide) (Nat.le_of_ble_eq_true rfl) (show Go l D cA ad d mX3_worked 0 [.int (iI (-12)), .long (iI a).toInt64, .null, .long (iI b).toInt64, .null, .null, .null] [] σ K from ?_)
  refine go_iload_n dX3_worked_0 rfl ?_
  refine go_tabIn (off := 59) (tgt := 60) dX3_worked_1 (by decide) (by decide) (by decide) (by decide) ?_
  refine go_lload_n dX3_worked_60 rfl ?_
  refine go_lload_n dX3_worked_61 rfl ?_
  refine go_lsub dX3_worked_62 ?_
  refine go_lstore dX3_worked_63 (Nat.le_of_ble_eq_true rfl) rfl ?_
  refine go_goto (tgt := 166) dX3_worked_65 (by decide) ?_
  simp only [List.set]
  exact w166 (by rw [wi_sub ha hb]; exact hK)
theorem wk_13 {l : Launch} {D : va_G} {cA ad : Nat → Nat} {d : Nat} {σ : AS} {K : Option Value → AS → Prop} {a b : Int} (ha : bd6 a) (hb : bd6 b) (hK : K (some (.int (iI (opV (-13) a b)))) σ) : Call l D cA ad d mX3_worked [.int (iI (-13)), .long (iI a).toInt64, .long (iI b).toInt64] σ K := by
  have ha0 := ha
  have hb0 := hb
  unfold bd6 at ha hb
  refine call_go (by decide) (Nat.le_of_ble_eq_true rfl) (show Go l D cA ad d mX3_worked 0 [.int (iI (-13)), .long (iI a).toInt64, .null, .long (iI b).toInt64, .null, .null, .null] [] σ K from ?_)
  refine go_iload_n dX3_worked_0 rfl ?_
  refine go_tabIn (off := 67) (tgt := 68) dX3_worked_1 (by decide) (by decide) (by decide) (by decide) ?_
  refine go_lload_n dX3_worked_68 rfl ?_
  refine go_lload_n dX3_worked_69 rfl ?_
  refine go_lmul dX3_worked_70 ?_
  refine go_lstore dX3_worked_71 (Nat.le_of_ble_eq_true rfl) rfl ?_
  refine go_goto (tgt := 166) dX3_worked_73 (by decide) ?_
  simp only [List.set]
  exact w166 (by rw [wi_mul ha hb]; exact hK)
theorem wk_14 {l : Launch} {D : va_G} {cA ad : Nat → Nat} {d : Nat} {σ : AS} {K : Option Value → AS → Prop} {a b : Int} (ha : bd6 a) (hb : bd6 b) (hK : K (some (.int (iI (opV (-14) a b)))) σ) : Call l D cA ad d mX3_worked [.int (iI (-14)), .long (iI a).toInt64, .long (iI b).toInt64] σ K := by
  have ha0 := ha
  have hb0 := hb
  unfold bd6 at ha hb
  refine call_go (by decide) (Nat.le_of_ble_eq_true rfl) (show Go l D cA ad d mX3_worked 0 [.int (iI (-14)), .long (iI a).toInt64, .null, .long (iI b).toInt64, .null, .null, .null] [] σ K from ?_)
  refine go_iload_n dX3_worked_0 rfl ?_
  refine go_tabIn (off := 75) (tgt := 76) dX3_worked_1 (by decide) (by decide) (by decide) (by decide) ?_
  refine go_lload_n dX3_worked_76 rfl ?_
  refine go_lconst (v := 0) dX3_worked_77 (by decide) ?_
  refine go_lcmp dX3_worked_78 ?_
  refine go_if_ne (tgt := 86) dX3_worked_79 (by decide) (fun h79 => ?_) (fun h79 => ?_)
  · refine go_lload_n dX3_worked_86 rfl ?_
    refine go_lload_n dX3_worked_87 rfl ?_
    refine go_ldiv dX3_worked_88 (fun q => h79 (lcmp0.mpr q)) ?_
    refine go_lstore dX3_worked_89 (Nat.le_of_ble_eq_true rfl) rfl ?_
    refine go_goto (tgt := 166) dX3_worked_91 (by decide) ?_
    simp only [List.set]
    exact w166 (by rw [wi_div ha0 hb0 (fun q => h79 ((cmp_z hb0).mpr q))]; exact hK)
  · refine go_lconst (v := 0) dX3_worked_82 (by decide) ?_
    refine go_goto (tgt := 89) dX3_worked_83 (by decide) ?_
    refine go_lstore dX3_worked_89 (Nat.le_of_ble_eq_true rfl) rfl ?_
    refine go_goto (tgt := 166) dX3_worked_91 (by decide) ?_
    simp only [List.set]
    exact w166 (by rw [wi_dv0 (a := a) ((cmp_z hb0).mp h79)]; exact hK)
theorem wk_15 {l : Launch} {D : va_G} {cA ad : Nat → Nat} {d : Nat} {σ : AS} {K : Option Value → AS → Prop} {a b : Int} (ha : bd6 a) (hb : bd6 b) (hK : K (some (.int (iI (opV (-15) a b)))) σ) : Call l D cA ad d mX3_worked [.int (iI (-15)), .long (iI a).toInt64, .long (iI b).toInt64] σ K := by
  have ha0 := ha
  have hb0 := hb
  unfold bd6 at ha hb
  refine call_go (by decide) (Nat.le_of_ble_eq_true rfl) (show Go l D cA ad d mX3_worked 0 [.int (iI (-15)), .long (iI a).toInt64, .null, .long (iI b).toInt64, .null, .null, .null] [] σ K from ?_)
  refine go_iload_n dX3_worked_0 rfl ?_
  refine go_tabIn (off := 93) (tgt := 94) dX3_worked_1 (by decide) (by decide) (by decide) (by decide) ?_
  refine go_lload_n dX3_worked_94 rfl ?_
  refine go_lload_n dX3_worked_95 rfl ?_
  refine go_lcmp dX3_worked_96 ?_
  refine go_if_ne (tgt := 104) dX3_worked_97 (by decide) (fun h97 => ?_) (fun h97 => ?_)
  · refine go_iconst (v := iI 0) dX3_worked_104 (by decide) ?_
    refine go_iret rfl rfl dX3_worked_105 ?_
    rw [lcmp0, i2l_iI (show -2147483648 ≤ a ∧ a < 2147483648 by omega), i2l_iI (show -2147483648 ≤ b ∧ b < 2147483648 by omega), lL_eq (by omega) (by omega)] at h97
    rw [op_15, if_neg h97] at hK
    exact hK
  · refine go_iconst (v := iI 1) dX3_worked_100 (by decide) ?_
    refine go_goto (tgt := 105) dX3_worked_101 (by decide) ?_
    refine go_iret rfl rfl dX3_worked_105 ?_
    rw [lcmp0, i2l_iI (show -2147483648 ≤ a ∧ a < 2147483648 by omega), i2l_iI (show -2147483648 ≤ b ∧ b < 2147483648 by omega), lL_eq (by omega) (by omega)] at h97
    rw [op_15, if_pos h97] at hK
    exact hK
theorem wk_16 {l : Launch} {D : va_G} {cA ad : Nat → Nat} {d : Nat} {σ : AS} {K : Option Value → AS → Prop} {a b : Int} (ha : bd6 a) (hb : bd6 b) (hK : K (some (.int (iI (opV (-16) a b)))) σ) : Call l D cA ad d mX3_worked [.int (iI (-16)), .long (iI a).toInt64, .long (iI b).toInt64] σ K := by
  have ha0 := ha
  have hb0 := hb
  unfold bd6 at ha hb
  refine call_go (by decide) (Nat.le_of_ble_eq_true rfl) (show Go l D cA ad d mX3_worked 0 [.int (iI (-16)), .long (iI a).toInt64, .null, .long (iI b).toInt64, .null, .null, .null] [] σ K from ?_)
  refine go_iload_n dX3_worked_0 rfl ?_
  refine go_tabIn (off := 105) (tgt := 106) dX3_worked_1 (by decide) (by decide) (by decide) (by decide) ?_
  refine go_lload_n dX3_worked_106 rfl ?_
  refine go_lload_n dX3_worked_107 rfl ?_
  refine go_lcmp dX3_worked_108 ?_
  refine go_if_ge (tgt := 116) dX3_worked_109 (by decide) (fun h109 => ?_) (fun h109 => ?_)
  · refine go_iconst (v := iI 0) dX3_worked_116 (by decide) ?_
    refine go_iret rfl rfl dX3_worked_117 ?_
    rw [lg_ge, i2l_iI (show -2147483648 ≤ a ∧ a < 2147483648 by omega), i2l_iI (show -2147483648 ≤ b ∧ b < 2147483648 by omega), lL_toInt (by omega), lL_toInt (by omega)] at h109
    rw [op_16, if_neg (by omega)] at hK
    exact hK
  · refine go_iconst (v := iI 1) dX3_worked_112 (by decide) ?_
    refine go_goto (tgt := 117) dX3_worked_113 (by decide) ?_
    refine go_iret rfl rfl dX3_worked_117 ?_
    rw [lg_ge, i2l_iI (show -2147483648 ≤ a ∧ a < 2147483648 by omega), i2l_iI (show -2147483648 ≤ b ∧ b < 2147483648 by omega), lL_toInt (by omega), lL_toInt (by omega)] at h109
    rw [op_16, if_pos (by omega)] at hK
    exact hK
theorem wk_17 {l : Launch} {D : va_G} {cA ad : Nat → Nat} {d : Nat} {σ : AS} {K : Option Value → AS → Prop} {a b : Int} (ha : bd6 a) (hb : bd6 b) (hK : K (some (.int (iI (opV (-17) a b)))) σ) : Call l D cA ad d mX3_worked [.int (iI (-17)), .long (iI a).toInt64, .long (iI b).toInt64] σ K := by
  have ha0 := ha
  have hb0 := hb
  unfold bd6 at ha hb
  refine call_go (by decide) (Nat.le_of_ble_eq_true rfl) (show Go l D cA ad d mX3_worked 0 [.int (iI (-17)), .long (iI a).toInt64, .null, .long (iI b).toInt64, .null, .null, .null] [] σ K from ?_)
  refine go_iload_n dX3_worked_0 rfl ?_
  refine go_tabIn (off := 117) (tgt := 118) dX3_worked_1 (by decide) (by decide) (by decide) (by decide) ?_
  refine go_lload_n dX3_worked_118 rfl ?_
  refine go_lload_n dX3_worked_119 rfl ?_
  refine go_lcmp dX3_worked_120 ?_
  refine go_if_le (tgt := 128) dX3_worked_121 (by decide) (fun h121 => ?_) (fun h121 => ?_)
  · refine go_iconst (v := iI 0) dX3_worked_128 (by decide) ?_
    refine go_iret rfl rfl dX3_worked_129 ?_
    rw [lg_le, i2l_iI (show -2147483648 ≤ a ∧ a < 2147483648 by omega), i2l_iI (show -2147483648 ≤ b ∧ b < 2147483648 by omega), lL_toInt (by omega), lL_toInt (by omega)] at h121
    rw [op_17, if_neg (by omega)] at hK
    exact hK
  · refine go_iconst (v := iI 1) dX3_worked_124 (by decide) ?_
    refine go_goto (tgt := 129) dX3_worked_125 (by decide) ?_
    refine go_iret rfl rfl dX3_worked_129 ?_
    rw [lg_le, i2l_iI (show -2147483648 ≤ a ∧ a < 2147483648 by omega), i2l_iI (show -2147483648 ≤ b ∧ b < 2147483648 by omega), lL_toInt (by omega), lL_toInt (by omega)] at h121
    rw [op_17, if_pos (by omega)] at hK
    exact hK
theorem wk_19 {l : Launch} {D : va_G} {cA ad : Nat → Nat} {d : Nat} {σ : AS} {K : Option Value → AS → Prop} {a b : Int} (ha : bd6 a) (hb : bd6 b) (hK : K (some (.int (iI (opV (-19) a b)))) σ) : Call l D cA ad d mX3_worked [.int (iI (-19)), .long (iI a).toInt64, .long (iI b).toInt64] σ K := by
  have ha0 := ha
  have hb0 := hb
  unfold bd6 at ha hb
  refine call_go (by decide) (Nat.le_of_ble_eq_true rfl) (show Go l D cA ad d mX3_worked 0 [.int (iI (-19)), .long (iI a).toInt64, .null, .long (iI b).toInt64, .null, .null, .null] [] σ K from ?_)
  refine go_iload_n dX3_worked_0 rfl ?_
  refine go_tabIn (off := 129) (tgt := 130) dX3_worked_1 (by decide) (by decide) (by decide) (by decide) ?_
  refine go_lload_n dX3_worked_130 rfl ?_
  refine go_lconst (v := 0) dX3_worked_131 (by decide) ?_
  refine go_lcmp dX3_worked_132 ?_
  refine go_if_eq (tgt := 146) dX3_worked_133 (by decide) (fun h133 => ?_) (fun h133 => ?_)
  · refine go_iconst (v := iI 0) dX3_worked_146 (by decide) ?_
    refine go_iret rfl rfl dX3_worked_147 ?_
    rw [lcmp0, i2l_iI (show -2147483648 ≤ a ∧ a < 2147483648 by omega), lL_0, lL_eq (by omega) (by omega)] at h133
    rw [op_19, if_neg (fun q => q.1 h133)] at hK
    exact hK
  · refine go_lload_n dX3_worked_136 rfl ?_
    refine go_lconst (v := 0) dX3_worked_137 (by decide) ?_
    refine go_lcmp dX3_worked_138 ?_
    refine go_if_eq (tgt := 146) dX3_worked_139 (by decide) (fun h139 => ?_) (fun h139 => ?_)
    · refine go_iconst (v := iI 0) dX3_worked_146 (by decide) ?_
      refine go_iret rfl rfl dX3_worked_147 ?_
      rw [lcmp0, i2l_iI (show -2147483648 ≤ b ∧ b < 2147483648 by omega), lL_0, lL_eq (by omega) (by omega)] at h139
      rw [op_19, if_neg (fun q => q.2 h139)] at hK
      exact hK
    · refine go_iconst (v := iI 1) dX3_worked_142 (by decide) ?_
      refine go_goto (tgt := 147) dX3_worked_143 (by decide) ?_
      refine go_iret rfl rfl dX3_worked_147 ?_
      rw [lcmp0, i2l_iI (show -2147483648 ≤ a ∧ a < 2147483648 by omega), lL_0, lL_eq (by omega) (by omega)] at h133
      rw [lcmp0, i2l_iI (show -2147483648 ≤ b ∧ b < 2147483648 by omega), lL_0, lL_eq (by omega) (by omega)] at h139
      rw [op_19, if_pos ⟨h133, h139⟩] at hK
      exact hK
theorem wk_20 {l : Launch} {D : va_G} {cA ad : Nat → Nat} {d : Nat} {σ : AS} {K : Option Value → AS → Prop} {a b : Int} (ha : bd6 a) (hb : bd6 b) (hK : K (some (.int (iI (opV (-20) a b)))) σ) : Call l D cA ad d mX3_worked [.int (iI (-20)), .long (iI a).toInt64, .long (iI b).toInt64] σ K := by
  have ha0 := ha
  have hb0 := hb
  unfold bd6 at ha hb
  refine call_go (by decide) (Nat.le_of_ble_eq_true rfl) (show Go l D cA ad d mX3_worked 0 [.int (iI (-20)), .long (iI a).toInt64, .null, .long (iI b).toInt64, .null, .null, .null] [] σ K from ?_)
  refine go_iload_n dX3_worked_0 rfl ?_
  refine go_tabOut (tgt := 148) dX3_worked_1 (by decide) (by decide) ?_
  refine go_lload_n dX3_worked_148 rfl ?_
  refine go_lconst (v := 0) dX3_worked_149 (by decide) ?_
  refine go_lcmp dX3_worked_150 ?_
  refine go_if_ne (tgt := 160) dX3_worked_151 (by decide) (fun h151 => ?_) (fun h151 => ?_)
  · refine go_iconst (v := iI 1) dX3_worked_160 (by decide) ?_
    refine go_goto (tgt := 165) dX3_worked_161 (by decide) ?_
    refine go_iret rfl rfl dX3_worked_165 ?_
    rw [lcmp0, i2l_iI (show -2147483648 ≤ a ∧ a < 2147483648 by omega), lL_0, lL_eq (by omega) (by omega)] at h151
    rw [op_20, if_pos (Or.inl h151)] at hK
    exact hK
  · refine go_lload_n dX3_worked_154 rfl ?_
    refine go_lconst (v := 0) dX3_worked_155 (by decide) ?_
    refine go_lcmp dX3_worked_156 ?_
    refine go_if_eq (tgt := 164) dX3_worked_157 (by decide) (fun h157 => ?_) (fun h157 => ?_)
    · refine go_iconst (v := iI 0) dX3_worked_164 (by decide) ?_
      refine go_iret rfl rfl dX3_worked_165 ?_
      rw [lcmp0, i2l_iI (show -2147483648 ≤ a ∧ a < 2147483648 by omega), lL_0, lL_eq (by omega) (by omega)] at h151
      rw [lcmp0, i2l_iI (show -2147483648 ≤ b ∧ b < 2147483648 by omega), lL_0, lL_eq (by omega) (by omega)] at h157
      rw [op_20, if_neg (by omega)] at hK
      exact hK
    · refine go_iconst (v := iI 1) dX3_worked_160 (by decide) ?_
      refine go_goto (tgt := 165) dX3_worked_161 (by decide) ?_
      refine go_iret rfl rfl dX3_worked_165 ?_
      rw [lcmp0, i2l_iI (show -2147483648 ≤ b ∧ b < 2147483648 by omega), lL_0, lL_eq (by omega) (by omega)] at h157
      rw [op_20, if_pos (Or.inr h157)] at hK
      exact hK
theorem ct_X3_worked {l : Launch} {D : va_G} {cA ad : Nat → Nat} {d : Nat} {σ : AS} {K : Option Value → AS → Prop} {o a b : Int} (ho : o = -11 ∨ o = -12 ∨ o = -13 ∨ o = -14 ∨ o = -15 ∨ o = -16 ∨ o = -17 ∨ o = -19 ∨ o = -20) (ha : bd6 a) (hb : bd6 b) (hK : K (some (.int (iI (opV o a b)))) σ) : Call l D cA ad d mX3_worked [.int (iI o), .long (iI a).toInt64, .long (iI b).toInt64] σ K := by
  rcases ho with h | h | h | h | h | h | h | h | h <;> subst h
  · exact wk_11 ha hb hK
  · exact wk_12 ha hb hK
  · exact wk_13 ha hb hK
  · exact wk_14 ha hb hK
  · exact wk_15 ha hb hK
  · exact wk_16 ha hb hK
  · exact wk_17 ha hb hK
  · exact wk_19 ha hb hK
  · exact wk_20 ha hb hK
