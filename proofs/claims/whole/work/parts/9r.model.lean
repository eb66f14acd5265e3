/-! PondRoofsModel (cell 111) -/
theorem cy_X12_init {l : Launch} {D : va_G} {cA ad : Nat → Nat} {d : Nat} {σ : AS} {K : Option Value → AS → Prop} (hA : AdS ad) (hZ : Zr σ 111) (hK : K none (sR (sI (sI σ 111 (upd (σ.1 111) 34 (iI (-1)))) 111 (upd ((sI σ 111 (upd (σ.1 111) 34 (iI (-1)))).1 111) 35 (iI 20))) 111 (va_up (va_up (va_up (va_up (va_up (va_up (va_up (va_up (va_up (va_up (va_up (va_up (va_up (va_up (va_up (va_up (va_up (va_up (va_up (va_up (va_up (va_up (va_up (va_up (fun _ => none) 1 (some 112)) 2 (some 113)) 3 (some 114)) 4 (some 115)) 5 (some 112)) 15 (some (2000 + 6))) 16 (some (2000 + 7))) 18 (some 116)) 19 (some 117)) 20 (some 118)) 21 (some 119)) 22 (some 120)) 23 (some 121)) 24 (some 122)) 25 (some 123)) 32 (some 124)) 33 (some 125)) 37 (some 126)) 38 (some 127)) 39 (some 128)) 42 (some 129)) 43 (some 130)) 44 (some 131)) 46 (some 132)))) : CallY l D cA ad (d + 2) 21 27035 mX12_init [.ref 111] 112 133 σ K := by
  refine cally_gy (by decide) (Nat.le_of_ble_eq_true rfl) (fun p e s m args below meth c hB hI hnm hlk hrt => ?_)
  show GY p l e _ s m args below meth c _ D cA ad _ 0 0 112 0 [.ref 111] [] σ
  refine gy_id (q := 111) (hZ 111 (Nat.le_refl _)).2.2 ?_
  refine gy_aload_n hB dX12_init_0 rfl ?_
  refine gy_obj hB ⟨by show 1 ≤ d + 2; omega, by show 40 ≤ 40 * (d + 2); omega⟩ (Nat.le_of_ble_eq_true rfl) (tb_t 1189 (by decide +kernel) (by decide +kernel)) oI_i oI_c dX12_init_1 ?_
  refine gy_aload_n hB dX12_init_4 rfl ?_
  refine gy_sipush (v := iI 240) hB dX12_init_5 (by decide) ?_
  refine gy_newB hB hA (by decide) rfl (Zr_sR (hZ.up (by decide)) (by decide)) (by decide) (by decide) (by decide) (by show _ ≤ 21; decide) (by show _ ≤ 27035; decide) dX12_init_8 ?_
  refine gy_putR2 hB hnm fX12_9 rfl dX12_init_10 rfl (by decide) (by decide) (fun _ => rfl) (fun _ => rfl) ?_
  refine gy_aload_n hB dX12_init_13 rfl ?_
  refine gy_sipush (v := iI 960) hB dX12_init_14 (by decide) ?_
  refine gy_newB hB hA (by decide) rfl (Zr_sR (hZ.up (by decide)) (by decide)) (by decide) (by decide) (by decide) (by show _ ≤ 21; decide) (by show _ ≤ 27035; decide) dX12_init_17 ?_
  refine gy_putR2 hB hnm fX12_13 rfl dX12_init_19 rfl (by decide) (by decide) (fun _ => rfl) (fun _ => rfl) ?_
  refine gy_aload_n hB dX12_init_22 rfl ?_
  refine gy_iconst (v := iI 4) hB dX12_init_23 (by decide) ?_
  refine gy_newI hB hA (by decide) rfl (Zr_sR (hZ.up (by decide)) (by decide)) (by decide) (by decide) (by decide) (by show _ ≤ 21; decide) (by show _ ≤ 27035; decide) dX12_init_24 ?_
  refine gy_putR2 hB hnm fX12_16 rfl dX12_init_26 rfl (by decide) (by decide) (fun _ => rfl) (fun _ => rfl) ?_
  refine gy_aload_n hB dX12_init_29 rfl ?_
  refine gy_sipush (v := iI 128) hB dX12_init_30 (by decide) ?_
  refine gy_newI hB hA (by decide) rfl (Zr_sR (hZ.up (by decide)) (by decide)) (by decide) (by decide) (by decide) (by show _ ≤ 21; decide) (by show _ ≤ 27035; decide) dX12_init_33 ?_
  refine gy_putR2 hB hnm fX12_20 rfl dX12_init_35 rfl (by decide) (by decide) (fun _ => rfl) (fun _ => rfl) ?_
  refine gy_aload_n hB dX12_init_38 rfl ?_
  refine gy_aload_n hB dX12_init_39 rfl ?_
  refine gy_getR (a := 112) hB fX12_9 dX12_init_40 rfl (by decide) rfl ?_
  refine gy_putR2 hB hnm fX12_23 rfl dX12_init_43 rfl (by decide) (by decide) (fun _ => rfl) (fun _ => rfl) ?_
  refine gy_aload_n hB dX12_init_46 rfl ?_
  refine gy_ldcS (i := 6) hB (by decide) rfl dX12_init_47 ?_
  refine gy_putR2 hB hnm fX12_28 rfl dX12_init_49 rfl (by decide) (by decide) (fun _ => rfl) (fun _ => rfl) ?_
  refine gy_aload_n hB dX12_init_52 rfl ?_
  refine gy_ldcS (i := 7) hB (by decide) rfl dX12_init_53 ?_
  refine gy_putR2 hB hnm fX12_34 rfl dX12_init_55 rfl (by decide) (by decide) (fun _ => rfl) (fun _ => rfl) ?_
  refine gy_aload_n hB dX12_init_58 rfl ?_
  refine gy_iconst (v := iI 3) hB dX12_init_59 (by decide) ?_
  refine gy_newI hB hA (by decide) rfl (Zr_sR (hZ.up (by decide)) (by decide)) (by decide) (by decide) (by decide) (by show _ ≤ 21; decide) (by show _ ≤ 27035; decide) dX12_init_60 ?_
  refine gy_putR2 hB hnm fX12_37 rfl dX12_init_62 rfl (by decide) (by decide) (fun _ => rfl) (fun _ => rfl) ?_
  refine gy_aload_n hB dX12_init_65 rfl ?_
  refine gy_iconst (v := iI 3) hB dX12_init_66 (by decide) ?_
  refine gy_newI hB hA (by decide) rfl (Zr_sR (hZ.up (by decide)) (by decide)) (by decide) (by decide) (by decide) (by show _ ≤ 21; decide) (by show _ ≤ 27035; decide) dX12_init_67 ?_
  refine gy_putR2 hB hnm fX12_40 rfl dX12_init_69 rfl (by decide) (by decide) (fun _ => rfl) (fun _ => rfl) ?_
  refine gy_aload_n hB dX12_init_72 rfl ?_
  refine gy_bipush (v := iI 63) hB dX12_init_73 (by decide) ?_
  refine gy_newI hB hA (by decide) rfl (Zr_sR (hZ.up (by decide)) (by decide)) (by decide) (by decide) (by decide) (by show _ ≤ 21; decide) (by show _ ≤ 27035; decide) dX12_init_75 ?_
  refine gy_putR2 hB hnm fX12_43 rfl dX12_init_77 rfl (by decide) (by decide) (fun _ => rfl) (fun _ => rfl) ?_
  refine gy_aload_n hB dX12_init_80 rfl ?_
  refine gy_bipush (v := iI 63) hB dX12_init_81 (by decide) ?_
  refine gy_newI hB hA (by decide) rfl (Zr_sR (hZ.up (by decide)) (by decide)) (by decide) (by decide) (by decide) (by show _ ≤ 21; decide) (by show _ ≤ 27035; decide) dX12_init_83 ?_
  refine gy_putR2 hB hnm fX12_46 rfl dX12_init_85 rfl (by decide) (by decide) (fun _ => rfl) (fun _ => rfl) ?_
  refine gy_aload_n hB dX12_init_88 rfl ?_
  refine gy_bipush (v := iI 45) hB dX12_init_89 (by decide) ?_
  refine gy_newI hB hA (by decide) rfl (Zr_sR (hZ.up (by decide)) (by decide)) (by decide) (by decide) (by decide) (by show _ ≤ 21; decide) (by show _ ≤ 27035; decide) dX12_init_91 ?_
  refine gy_putR2 hB hnm fX12_49 rfl dX12_init_93 rfl (by decide) (by decide) (fun _ => rfl) (fun _ => rfl) ?_
  refine gy_aload_n hB dX12_init_96 rfl ?_
  refine gy_bipush (v := iI 45) hB dX12_init_97 (by decide) ?_
  refine gy_newI hB hA (by decide) rfl (Zr_sR (hZ.up (by decide)) (by decide)) (by decide) (by decide) (by decide) (by show _ ≤ 21; decide) (by show _ ≤ 27035; decide) dX12_init_99 ?_
  refine gy_putR2 hB hnm fX12_52 rfl dX12_init_101 rfl (by decide) (by decide) (fun _ => rfl) (fun _ => rfl) ?_
  refine gy_aload_n hB dX12_init_104 rfl ?_
  refine gy_sipush (v := iI 240) hB dX12_init_105 (by decide) ?_
  refine gy_newI hB hA (by decide) rfl (Zr_sR (hZ.up (by decide)) (by decide)) (by decide) (by decide) (by decide) (by show _ ≤ 21; decide) (by show _ ≤ 27035; decide) dX12_init_108 ?_
  refine gy_putR2 hB hnm fX12_55 rfl dX12_init_110 rfl (by decide) (by decide) (fun _ => rfl) (fun _ => rfl) ?_
  refine gy_aload_n hB dX12_init_113 rfl ?_
  refine gy_iconst (v := iI 5) hB dX12_init_114 (by decide) ?_
  refine gy_newI hB hA (by decide) rfl (Zr_sR (hZ.up (by decide)) (by decide)) (by decide) (by decide) (by decide) (by show _ ≤ 21; decide) (by show _ ≤ 27035; decide) dX12_init_115 ?_
  refine gy_putR2 hB hnm fX12_58 rfl dX12_init_117 rfl (by decide) (by decide) (fun _ => rfl) (fun _ => rfl) ?_
  refine gy_aload_n hB dX12_init_120 rfl ?_
  refine gy_sipush (v := iI 205) hB dX12_init_121 (by decide) ?_
  refine gy_newI hB hA (by decide) rfl (Zr_sR (hZ.up (by decide)) (by decide)) (by decide) (by decide) (by decide) (by show _ ≤ 21; decide) (by show _ ≤ 27035; decide) dX12_init_124 ?_
  refine gy_putR2 hB hnm fX12_61 rfl dX12_init_126 rfl (by decide) (by decide) (fun _ => rfl) (fun _ => rfl) ?_
  refine gy_aload_n hB dX12_init_129 rfl ?_
  refine gy_sipush (v := iI 205) hB dX12_init_130 (by decide) ?_
  refine gy_newI hB hA (by decide) rfl (Zr_sR (hZ.up (by decide)) (by decide)) (by decide) (by decide) (by decide) (by show _ ≤ 21; decide) (by show _ ≤ 27035; decide) dX12_init_133 ?_
  refine gy_putR2 hB hnm fX12_64 rfl dX12_init_135 rfl (by decide) (by decide) (fun _ => rfl) (fun _ => rfl) ?_
  refine gy_aload_n hB dX12_init_138 rfl ?_
  refine gy_iconst (v := iI (-1)) hB dX12_init_139 (by decide) ?_
  refine gy_putI hB hnm fX12_67 rfl dX12_init_140 rfl (by decide) (by decide) rfl rfl ?_
  simp only [sI_sR]
  refine gy_aload_n hB dX12_init_143 rfl ?_
  refine gy_bipush (v := iI 20) hB dX12_init_144 (by decide) ?_
  refine gy_putI hB hnm fX12_71 rfl dX12_init_146 rfl (by decide) (by decide) rfl rfl ?_
  simp only [sI_sR]
  refine gy_aload_n hB dX12_init_149 rfl ?_
  refine gy_sipush (v := iI 8191) hB dX12_init_150 (by decide) ?_
  refine gy_newL hB hA (by decide) rfl (Zr_sR (Zr_sI (Zr_sI (hZ.up (by decide)) (by decide)) (by decide)) (by decide)) (by decide) (by decide) (by decide) (by show _ ≤ 21; decide) (by show _ ≤ 27035; decide) dX12_init_153 ?_
  refine gy_putR2 hB hnm fX12_74 rfl dX12_init_155 rfl (by decide) (by decide) (fun _ => rfl) (fun _ => rfl) ?_
  refine gy_aload_n hB dX12_init_158 rfl ?_
  refine gy_sipush (v := iI 8191) hB dX12_init_159 (by decide) ?_
  refine gy_newI hB hA (by decide) rfl (Zr_sR (Zr_sI (Zr_sI (hZ.up (by decide)) (by decide)) (by decide)) (by decide)) (by decide) (by decide) (by decide) (by show _ ≤ 21; decide) (by show _ ≤ 27035; decide) dX12_init_162 ?_
  refine gy_putR2 hB hnm fX12_78 rfl dX12_init_164 rfl (by decide) (by decide) (fun _ => rfl) (fun _ => rfl) ?_
  refine gy_aload_n hB dX12_init_167 rfl ?_
  refine gy_sipush (v := iI 8200) hB dX12_init_168 (by decide) ?_
  refine gy_newI hB hA (by decide) rfl (Zr_sR (Zr_sI (Zr_sI (hZ.up (by decide)) (by decide)) (by decide)) (by decide)) (by decide) (by decide) (by decide) (by show _ ≤ 21; decide) (by show _ ≤ 27035; decide) dX12_init_171 ?_
  refine gy_putR2 hB hnm fX12_81 rfl dX12_init_173 rfl (by decide) (by decide) (fun _ => rfl) (fun _ => rfl) ?_
  refine gy_aload_n hB dX12_init_176 rfl ?_
  refine gy_bipush (v := iI 10) hB dX12_init_177 (by decide) ?_
  refine gy_newI hB hA (by decide) rfl (Zr_sR (Zr_sI (Zr_sI (hZ.up (by decide)) (by decide)) (by decide)) (by decide)) (by decide) (by decide) (by decide) (by show _ ≤ 21; decide) (by show _ ≤ 27035; decide) dX12_init_179 ?_
  refine gy_putR2 hB hnm fX12_84 rfl dX12_init_181 rfl (by decide) (by decide) (fun _ => rfl) (fun _ => rfl) ?_
  refine gy_aload_n hB dX12_init_184 rfl ?_
  refine gy_bipush (v := iI 10) hB dX12_init_185 (by decide) ?_
  refine gy_newI hB hA (by decide) rfl (Zr_sR (Zr_sI (Zr_sI (hZ.up (by decide)) (by decide)) (by decide)) (by decide)) (by decide) (by decide) (by decide) (by show _ ≤ 21; decide) (by show _ ≤ 27035; decide) dX12_init_187 ?_
  refine gy_putR2 hB hnm fX12_87 rfl dX12_init_189 rfl (by decide) (by decide) (fun _ => rfl) (fun _ => rfl) ?_
  refine gy_aload_n hB dX12_init_192 rfl ?_
  refine gy_bipush (v := iI 19) hB dX12_init_193 (by decide) ?_
  refine gy_newI hB hA (by decide) rfl (Zr_sR (Zr_sI (Zr_sI (hZ.up (by decide)) (by decide)) (by decide)) (by decide)) (by decide) (by decide) (by decide) (by show _ ≤ 21; decide) (by show _ ≤ 27035; decide) dX12_init_195 ?_
  refine gy_putR2 hB hnm fX12_90 rfl dX12_init_197 rfl (by decide) (by decide) (fun _ => rfl) (fun _ => rfl) ?_
  refine gy_aload_n hB dX12_init_200 rfl ?_
  refine gy_sipush (v := iI 205) hB dX12_init_201 (by decide) ?_
  refine gy_newI hB hA (by decide) rfl (Zr_sR (Zr_sI (Zr_sI (hZ.up (by decide)) (by decide)) (by decide)) (by decide)) (by decide) (by decide) (by decide) (by show _ ≤ 21; decide) (by show _ ≤ 27035; decide) dX12_init_204 ?_
  refine gy_putR2 hB hnm fX12_93 rfl dX12_init_206 rfl (by decide) (by decide) (fun _ => rfl) (fun _ => rfl) ?_
  exact gy_vret (n1 := 0) (mc := 0) (ms := 0) hB hlk hrt dX12_init_209 hK
