/-! constructors: the leaves -/
theorem sR_sR {σ : AS} {k : Nat} {f g : Nat → Option Nat} : sR (sR σ k f) k g = sR σ k g := by
  unfold sR
  dsimp only
  congr 2
  funext a
  by_cases h : a = k <;> simp [h]
theorem sR_at {σ : AS} {k : Nat} {f : Nat → Option Nat} : (sR σ k f).2.2 k = f := by simp [sR]
theorem sR_id {σ : AS} {k : Nat} {f : Nat → Option Nat} (h : σ.2.2 k = f) : sR σ k f = σ := by
  subst h
  unfold sR
  refine Prod.ext rfl (Prod.ext rfl ?_)
  funext a
  by_cases h : a = k
  · subst h; simp
  · simp [h]
theorem oI_i : Cond.instanceMethod Lib.objectInit ∈ tb := tb_t 32 (by decide +kernel) (by decide +kernel)
theorem oI_c : Cond.code Lib.objectInit ⟨#[0xb1]⟩ 1 none ∈ tb := tb_t 33 rfl (by decide +kernel)
section GYS
variable {p : Program} {l : Launch} {e : Env} {R : Room} {s : State} {m : MethodId} {args : Array Value} {below : List Frame} {meth : Method} {c : Code} {Q : State → Prop} {D : va_G} {cA ad : Nat → Nat} {nL cells slots n pc : Nat} {lv st : List Value} {σ : AS} {own : String} {cc : ByteArray}
theorem gy_id {q : Nat} (h : σ.2.2 q = fun _ => none) (k : GY p l e R s m args below meth c Q D cA ad nL cells slots n pc lv st (sR σ q (fun _ => none))) : GY p l e R s m args below meth c Q D cA ad nL cells slots n pc lv st σ := by
  rw [sR_id h] at k
  exact k
theorem gy_putR2 {index ci j k x : Nat} {f : Nat → Option Nat} (hB : BX p s m args c D cA ad own cc nL) (hin2 : meth.name = "<init>") (hf : fOK own index ci j 2) (hdecl : (cls[ci]?).map (fun q => (q.2.1 j).1) = some own) (hd : decode cc pc = .ok (.putfield index, 3)) (hs : sh[k]? = some (0, ci)) (hk : k < n) (hn : n ≤ nC) (hz : ∀ a, narrow (tyf ci j) (.ref a) = .ref a) (hft : ∀ a, fits (tyf ci j) (.ref a) = true) (kk : GY p l e R s m args below meth c Q D cA ad nL cells slots n (pc + 3) lv st (sR σ k (va_up f j (some x)))) : GY p l e R s m args below meth c Q D cA ad nL cells slots n pc lv (.ref x :: .ref k :: st) (sR σ k f) := by
  refine gy_putR hB hin2 hf hdecl hd hs hk hn hz hft ?_
  rw [sR_sR, sR_at]
  exact kk
end GYS
abbrev mX0_init : Mt := (yX0_init, cX0_init, 1, none)
set_option maxRecDepth 100000 in
theorem kX0_init : cI mX0_init 0 := ⟨tb_t 266 rfl (by decide +kernel), tb_t 11 (by decide +kernel) (by decide +kernel), tb_t 265 (by decide +kernel) (by decide +kernel), rfl, ⟨by decide +kernel, by decide +kernel, by decide +kernel⟩, by decide, rfl⟩
abbrev mX1_init : Mt := (yX1_init, cX1_init, 1, none)
set_option maxRecDepth 100000 in
theorem kX1_init : cI mX1_init 0 := ⟨tb_t 251 rfl (by decide +kernel), tb_t 10 (by decide +kernel) (by decide +kernel), tb_t 250 (by decide +kernel) (by decide +kernel), rfl, ⟨by decide +kernel, by decide +kernel, by decide +kernel⟩, by decide, rfl⟩
abbrev mX2_init : Mt := (yX2_init, cX2_init, 3, none)
set_option maxRecDepth 100000 in
theorem kX2_init : cI mX2_init 1 := ⟨tb_t 156 rfl (by decide +kernel), tb_t 7 (by decide +kernel) (by decide +kernel), tb_t 155 (by decide +kernel) (by decide +kernel), rfl, ⟨by decide +kernel, by decide +kernel, by decide +kernel⟩, by decide, rfl⟩
abbrev mX3_init : Mt := (yX3_init, cX3_init, 1, none)
set_option maxRecDepth 100000 in
theorem kX3_init : cI mX3_init 0 := ⟨tb_t 126 rfl (by decide +kernel), tb_t 6 (by decide +kernel) (by decide +kernel), tb_t 125 (by decide +kernel) (by decide +kernel), rfl, ⟨by decide +kernel, by decide +kernel, by decide +kernel⟩, by decide, rfl⟩
abbrev mX4_init : Mt := (yX4_init, cX4_init, 2, none)
set_option maxRecDepth 100000 in
theorem kX4_init : cI mX4_init 1 := ⟨tb_t 120 rfl (by decide +kernel), tb_t 5 (by decide +kernel) (by decide +kernel), tb_t 119 (by decide +kernel) (by decide +kernel), rfl, ⟨by decide +kernel, by decide +kernel, by decide +kernel⟩, by decide, rfl⟩
abbrev mX5_init : Mt := (yX5_init, cX5_init, 2, none)
set_option maxRecDepth 100000 in
theorem kX5_init : cI mX5_init 1 := ⟨tb_t 283 rfl (by decide +kernel), tb_t 12 (by decide +kernel) (by decide +kernel), tb_t 282 (by decide +kernel) (by decide +kernel), rfl, ⟨by decide +kernel, by decide +kernel, by decide +kernel⟩, by decide, rfl⟩
abbrev mX6_init : Mt := (yX6_init, cX6_init, 4, none)
set_option maxRecDepth 100000 in
theorem kX6_init : cI mX6_init 3 := ⟨tb_t 306 rfl (by decide +kernel), tb_t 13 (by decide +kernel) (by decide +kernel), tb_t 305 (by decide +kernel) (by decide +kernel), rfl, ⟨by decide +kernel, by decide +kernel, by decide +kernel⟩, by decide, rfl⟩
abbrev mX7_init : Mt := (yX7_init, cX7_init, 1, none)
set_option maxRecDepth 100000 in
theorem kX7_init : cI mX7_init 0 := ⟨tb_t 182 rfl (by decide +kernel), tb_t 8 (by decide +kernel) (by decide +kernel), tb_t 181 (by decide +kernel) (by decide +kernel), rfl, ⟨by decide +kernel, by decide +kernel, by decide +kernel⟩, by decide, rfl⟩
abbrev mX8_init : Mt := (yX8_init, cX8_init, 1, none)
set_option maxRecDepth 100000 in
theorem kX8_init : cI mX8_init 0 := ⟨tb_t 38 rfl (by decide +kernel), tb_t 2 (by decide +kernel) (by decide +kernel), tb_t 37 (by decide +kernel) (by decide +kernel), rfl, ⟨by decide +kernel, by decide +kernel, by decide +kernel⟩, by decide, rfl⟩
abbrev mX9_init : Mt := (yX9_init, cX9_init, 1, none)
set_option maxRecDepth 100000 in
theorem kX9_init : cI mX9_init 0 := ⟨tb_t 60 rfl (by decide +kernel), tb_t 3 (by decide +kernel) (by decide +kernel), tb_t 59 (by decide +kernel) (by decide +kernel), rfl, ⟨by decide +kernel, by decide +kernel, by decide +kernel⟩, by decide, rfl⟩
abbrev mX10_init : Mt := (yX10_init, cX10_init, 1, none)
set_option maxRecDepth 100000 in
theorem kX10_init : cI mX10_init 0 := ⟨tb_t 209 rfl (by decide +kernel), tb_t 9 (by decide +kernel) (by decide +kernel), tb_t 208 (by decide +kernel) (by decide +kernel), rfl, ⟨by decide +kernel, by decide +kernel, by decide +kernel⟩, by decide, rfl⟩
abbrev mX11_init : Mt := (yX11_init, cX11_init, 2, none)
set_option maxRecDepth 100000 in
theorem kX11_init : cI mX11_init 0 := ⟨tb_t 30 rfl (by decide +kernel), tb_t 1 (by decide +kernel) (by decide +kernel), tb_t 29 (by decide +kernel) (by decide +kernel), rfl, ⟨by decide +kernel, by decide +kernel, by decide +kernel⟩, by decide, rfl⟩
abbrev mX12_init : Mt := (yX12_init, cX12_init, 1, none)
set_option maxRecDepth 100000 in
theorem kX12_init : cI mX12_init 0 := ⟨tb_t 1188 rfl (by decide +kernel), tb_t 14 (by decide +kernel) (by decide +kernel), tb_t 1187 (by decide +kernel) (by decide +kernel), rfl, ⟨by decide +kernel, by decide +kernel, by decide +kernel⟩, by decide, rfl⟩
theorem wLen3 : cV RX3 17 mJ0_length_8abf5 0 := ⟨⟨tb_t 129 (by decide +kernel) (by decide +kernel), kJ0_length_8abf5.1, kJ0_length_8abf5.2.1, kJ0_length_8abf5.2.2.1, kJ0_length_8abf5.2.2.2⟩, vJ0_length_8abf5⟩
theorem wLen9 : cV RX9 11 mJ0_length_8abf5 0 := ⟨⟨tb_t 63 (by decide +kernel) (by decide +kernel), kJ0_length_8abf5.1, kJ0_length_8abf5.2.1, kJ0_length_8abf5.2.2.1, kJ0_length_8abf5.2.2.2⟩, vJ0_length_8abf5⟩
theorem cy_X8_init {l : Launch} {D : va_G} {cA ad : Nat → Nat} {d q : Nat} {σ : AS} {K : Option Value → AS → Prop} (hA : AdS ad) (hq : q + 2 ≤ nC) (h0 : sh[q]? = some (0, 8)) (h1 : sh[q + 1]? = some (1, 240)) (hZ : Zr σ q) (hK : K none (sR σ q (va_up (fun _ => none) 0 (some (q + 1))))) : CallY l D cA ad (d + 2) 1 240 mX8_init [.ref q] (q + 1) (q + 2) σ K := by
  refine cally_gy (by decide) (Nat.le_of_ble_eq_true rfl) (fun p e s m args below meth c hB hI hnm hlk hrt => ?_)
  show GY p l e _ s m args below meth c _ D cA ad _ 0 0 (q + 1) 0 [.ref q] [] σ
  refine gy_id (hZ q (Nat.le_refl q)).2.2 ?_
  refine gy_aload_n hB dX8_init_0 rfl ?_
  refine gy_obj hB ⟨by show 1 ≤ d + 2; omega, by show 40 ≤ 40 * (d + 2); omega⟩ (Nat.le_of_ble_eq_true rfl) (tb_t 39 (by decide +kernel) (by decide +kernel)) oI_i oI_c dX8_init_1 ?_
  refine gy_aload_n hB dX8_init_4 rfl ?_
  refine gy_sipush (v := iI 240) hB dX8_init_5 (by decide) ?_
  refine gy_newI hB hA (by omega) h1 (Zr_sR (hZ.up (by omega)) (by omega)) (by decide) (by decide) (by decide) (by show _ ≤ 1; decide) (by show _ ≤ 240; decide) dX8_init_8 ?_
  refine gy_putR2 hB hnm fX8_9 rfl dX8_init_10 h0 (by omega) (by omega) (fun _ => rfl) (fun _ => rfl) ?_
  exact gy_vret (n1 := q + 2) (mc := 1) (ms := 240) hB hlk hrt dX8_init_13 hK
theorem cy_X1_init {l : Launch} {D : va_G} {cA ad : Nat → Nat} {d q : Nat} {σ : AS} {K : Option Value → AS → Prop} (hA : AdS ad) (hq : q + 2 ≤ nC) (h0 : sh[q]? = some (0, 1)) (h1 : sh[q + 1]? = some (1, 300)) (hZ : Zr σ q) (hK : K none (sR σ q (va_up (fun _ => none) 1 (some (q + 1))))) : CallY l D cA ad (d + 2) 1 300 mX1_init [.ref q] (q + 1) (q + 2) σ K := by
  refine cally_gy (by decide) (Nat.le_of_ble_eq_true rfl) (fun p e s m args below meth c hB hI hnm hlk hrt => ?_)
  show GY p l e _ s m args below meth c _ D cA ad _ 0 0 (q + 1) 0 [.ref q] [] σ
  refine gy_id (hZ q (Nat.le_refl q)).2.2 ?_
  refine gy_aload_n hB dX1_init_0 rfl ?_
  refine gy_obj hB ⟨by show 1 ≤ d + 2; omega, by show 40 ≤ 40 * (d + 2); omega⟩ (Nat.le_of_ble_eq_true rfl) (tb_t 252 (by decide +kernel) (by decide +kernel)) oI_i oI_c dX1_init_1 ?_
  refine gy_aload_n hB dX1_init_4 rfl ?_
  refine gy_sipush (v := iI 300) hB dX1_init_5 (by decide) ?_
  refine gy_newI hB hA (by omega) h1 (Zr_sR (hZ.up (by omega)) (by omega)) (by decide) (by decide) (by decide) (by show _ ≤ 1; decide) (by show _ ≤ 300; decide) dX1_init_8 ?_
  refine gy_putR2 hB hnm fX1_11 rfl dX1_init_10 h0 (by omega) (by omega) (fun _ => rfl) (fun _ => rfl) ?_
  exact gy_vret (n1 := q + 2) (mc := 1) (ms := 300) hB hlk hrt dX1_init_13 hK
theorem cy_X0_init {l : Launch} {D : va_G} {cA ad : Nat → Nat} {d q : Nat} {σ : AS} {K : Option Value → AS → Prop} (hA : AdS ad) (hq : q + 2 ≤ nC) (h0 : sh[q]? = some (0, 0)) (h1 : sh[q + 1]? = some (1, 1000)) (hZ : Zr σ q) (hK : K none (sR σ q (va_up (fun _ => none) 2 (some (q + 1))))) : CallY l D cA ad (d + 2) 1 1000 mX0_init [.ref q] (q + 1) (q + 2) σ K := by
  refine cally_gy (by decide) (Nat.le_of_ble_eq_true rfl) (fun p e s m args below meth c hB hI hnm hlk hrt => ?_)
  show GY p l e _ s m args below meth c _ D cA ad _ 0 0 (q + 1) 0 [.ref q] [] σ
  refine gy_id (hZ q (Nat.le_refl q)).2.2 ?_
  refine gy_aload_n hB dX0_init_0 rfl ?_
  refine gy_obj hB ⟨by show 1 ≤ d + 2; omega, by show 40 ≤ 40 * (d + 2); omega⟩ (Nat.le_of_ble_eq_true rfl) (tb_t 267 (by decide +kernel) (by decide +kernel)) oI_i oI_c dX0_init_1 ?_
  refine gy_aload_n hB dX0_init_4 rfl ?_
  refine gy_sipush (v := iI 1000) hB dX0_init_5 (by decide) ?_
  refine gy_newI hB hA (by omega) h1 (Zr_sR (hZ.up (by omega)) (by omega)) (by decide) (by decide) (by decide) (by show _ ≤ 1; decide) (by show _ ≤ 1000; decide) dX0_init_8 ?_
  refine gy_putR2 hB hnm fX0_13 rfl dX0_init_10 h0 (by omega) (by omega) (fun _ => rfl) (fun _ => rfl) ?_
  exact gy_vret (n1 := q + 2) (mc := 1) (ms := 1000) hB hlk hrt dX0_init_13 hK
theorem cy_X7_init {l : Launch} {D : va_G} {cA ad : Nat → Nat} {d q : Nat} {σ : AS} {K : Option Value → AS → Prop} (hA : AdS ad) (hq : q + 4 ≤ nC) (h0 : sh[q]? = some (0, 7)) (h1 : sh[q + 1]? = some (1, 16)) (h2 : sh[q + 2]? = some (1, 16)) (h3 : sh[q + 3]? = some (1, 16)) (hZ : Zr σ q) (hK : K none (sR σ q (va_up (va_up (va_up (fun _ => none) 0 (some (q + 1))) 1 (some (q + 2))) 2 (some (q + 3))))) : CallY l D cA ad (d + 2) 3 48 mX7_init [.ref q] (q + 1) (q + 4) σ K := by
  refine cally_gy (by decide) (Nat.le_of_ble_eq_true rfl) (fun p e s m args below meth c hB hI hnm hlk hrt => ?_)
  show GY p l e _ s m args below meth c _ D cA ad _ 0 0 (q + 1) 0 [.ref q] [] σ
  refine gy_id (hZ q (Nat.le_refl q)).2.2 ?_
  refine gy_aload_n hB dX7_init_0 rfl ?_
  refine gy_obj hB ⟨by show 1 ≤ d + 2; omega, by show 40 ≤ 40 * (d + 2); omega⟩ (Nat.le_of_ble_eq_true rfl) (tb_t 183 (by decide +kernel) (by decide +kernel)) oI_i oI_c dX7_init_1 ?_
  refine gy_aload_n hB dX7_init_4 rfl ?_
  refine gy_bipush (v := iI 16) hB dX7_init_5 (by decide) ?_
  refine gy_newI hB hA (by omega) h1 (Zr_sR (hZ.up (by omega)) (by omega)) (by decide) (by decide) (by decide) (by show _ ≤ 3; decide) (by show _ ≤ 48; decide) dX7_init_7 ?_
  refine gy_putR2 hB hnm fX7_9 rfl dX7_init_9 h0 (by omega) (by omega) (fun _ => rfl) (fun _ => rfl) ?_
  refine gy_aload_n hB dX7_init_12 rfl ?_
  refine gy_bipush (v := iI 16) hB dX7_init_13 (by decide) ?_
  refine gy_newI hB hA (by omega) h2 (Zr_sR (hZ.up (by omega)) (by omega)) (by decide) (by decide) (by decide) (by show _ ≤ 3; decide) (by show _ ≤ 48; decide) dX7_init_15 ?_
  refine gy_putR2 hB hnm fX7_15 rfl dX7_init_17 h0 (by omega) (by omega) (fun _ => rfl) (fun _ => rfl) ?_
  refine gy_aload_n hB dX7_init_20 rfl ?_
  refine gy_bipush (v := iI 16) hB dX7_init_21 (by decide) ?_
  refine gy_newI hB hA (by omega) h3 (Zr_sR (hZ.up (by omega)) (by omega)) (by decide) (by decide) (by decide) (by show _ ≤ 3; decide) (by show _ ≤ 48; decide) dX7_init_23 ?_
  refine gy_putR2 hB hnm fX7_18 rfl dX7_init_25 h0 (by omega) (by omega) (fun _ => rfl) (fun _ => rfl) ?_
  exact gy_vret (n1 := q + 4) (mc := 3) (ms := 48) hB hlk hrt dX7_init_28 hK
theorem cy_X10_init {l : Launch} {D : va_G} {cA ad : Nat → Nat} {d q : Nat} {σ : AS} {K : Option Value → AS → Prop} (hA : AdS ad) (hq : q + 4 ≤ nC) (h0 : sh[q]? = some (0, 10)) (h1 : sh[q + 1]? = some (1, 7)) (h2 : sh[q + 2]? = some (1, 7)) (h3 : sh[q + 3]? = some (1, 7)) (hZ : Zr σ q) (hK : K none (sR σ q (va_up (va_up (va_up (fun _ => none) 0 (some (q + 1))) 1 (some (q + 2))) 2 (some (q + 3))))) : CallY l D cA ad (d + 2) 3 21 mX10_init [.ref q] (q + 1) (q + 4) σ K := by
  refine cally_gy (by decide) (Nat.le_of_ble_eq_true rfl) (fun p e s m args below meth c hB hI hnm hlk hrt => ?_)
  show GY p l e _ s m args below meth c _ D cA ad _ 0 0 (q + 1) 0 [.ref q] [] σ
  refine gy_id (hZ q (Nat.le_refl q)).2.2 ?_
  refine gy_aload_n hB dX10_init_0 rfl ?_
  refine gy_obj hB ⟨by show 1 ≤ d + 2; omega, by show 40 ≤ 40 * (d + 2); omega⟩ (Nat.le_of_ble_eq_true rfl) (tb_t 210 (by decide +kernel) (by decide +kernel)) oI_i oI_c dX10_init_1 ?_
  refine gy_aload_n hB dX10_init_4 rfl ?_
  refine gy_bipush (v := iI 7) hB dX10_init_5 (by decide) ?_
  refine gy_newI hB hA (by omega) h1 (Zr_sR (hZ.up (by omega)) (by omega)) (by decide) (by decide) (by decide) (by show _ ≤ 3; decide) (by show _ ≤ 21; decide) dX10_init_7 ?_
  refine gy_putR2 hB hnm fX10_9 rfl dX10_init_9 h0 (by omega) (by omega) (fun _ => rfl) (fun _ => rfl) ?_
  refine gy_aload_n hB dX10_init_12 rfl ?_
  refine gy_bipush (v := iI 7) hB dX10_init_13 (by decide) ?_
  refine gy_newI hB hA (by omega) h2 (Zr_sR (hZ.up (by omega)) (by omega)) (by decide) (by decide) (by decide) (by show _ ≤ 3; decide) (by show _ ≤ 21; decide) dX10_init_15 ?_
  refine gy_putR2 hB hnm fX10_15 rfl dX10_init_17 h0 (by omega) (by omega) (fun _ => rfl) (fun _ => rfl) ?_
  refine gy_aload_n hB dX10_init_20 rfl ?_
  refine gy_bipush (v := iI 7) hB dX10_init_21 (by decide) ?_
  refine gy_newI hB hA (by omega) h3 (Zr_sR (hZ.up (by omega)) (by omega)) (by decide) (by decide) (by decide) (by show _ ≤ 3; decide) (by show _ ≤ 21; decide) dX10_init_23 ?_
  refine gy_putR2 hB hnm fX10_18 rfl dX10_init_25 h0 (by omega) (by omega) (fun _ => rfl) (fun _ => rfl) ?_
  exact gy_vret (n1 := q + 4) (mc := 3) (ms := 21) hB hlk hrt dX10_init_28 hK
theorem cy_X3_init {l : Launch} {D : va_G} {cA ad : Nat → Nat} {d q : Nat} {σ : AS} {K : Option Value → AS → Prop} (hA : AdS ad) (hq : q + 4 ≤ nC) (h0 : sh[q]? = some (0, 3)) (h1 : sh[q + 1]? = some (1, 240)) (h2 : sh[q + 2]? = some (1, 6)) (h3 : sh[q + 3]? = some (1, 64)) (hZ : Zr σ q) (hK : K none (sR σ q (va_up (va_up (va_up (fun _ => none) 0 (some (q + 1))) 2 (some (q + 2))) 3 (some (q + 3))))) : CallY l D cA ad (d + 2) 3 310 mX3_init [.ref q] (q + 1) (q + 4) σ K := by
  refine cally_gy (by decide) (Nat.le_of_ble_eq_true rfl) (fun p e s m args below meth c hB hI hnm hlk hrt => ?_)
  show GY p l e _ s m args below meth c _ D cA ad _ 0 0 (q + 1) 0 [.ref q] [] σ
  refine gy_id (hZ q (Nat.le_refl q)).2.2 ?_
  refine gy_aload_n hB dX3_init_0 rfl ?_
  refine gy_obj hB ⟨by show 1 ≤ d + 2; omega, by show 40 ≤ 40 * (d + 2); omega⟩ (Nat.le_of_ble_eq_true rfl) (tb_t 127 (by decide +kernel) (by decide +kernel)) oI_i oI_c dX3_init_1 ?_
  refine gy_aload_n hB dX3_init_4 rfl ?_
  refine gy_sipush (v := iI 240) hB dX3_init_5 (by decide) ?_
  refine gy_newI hB hA (by omega) h1 (Zr_sR (hZ.up (by omega)) (by omega)) (by decide) (by decide) (by decide) (by show _ ≤ 3; decide) (by show _ ≤ 310; decide) dX3_init_8 ?_
  refine gy_putR2 hB hnm fX3_9 rfl dX3_init_10 h0 (by omega) (by omega) (fun _ => rfl) (fun _ => rfl) ?_
  refine gy_aload_n hB dX3_init_13 rfl ?_
  refine gy_ldcS (i := 3) hB (by decide) rfl dX3_init_14 ?_
  refine gy_callVs (d := d + 1) (i := 3) (as := []) hB hI (by decide) wLen3 rfl ⟨by show d + 1 + 1 ≤ d + 2; omega, by show 40 * (d + 1 + 1) ≤ 40 * (d + 2); omega, (by show _ ≤ 3; decide), (by show _ ≤ 310; decide)⟩ dX3_init_16 rfl rfl (Nat.le_of_ble_eq_true rfl) (cy_length (by decide) ?_)
  show GY p l e _ s m args below meth c _ D cA ad _ _ _ _ _ _ (.int (iI 6) :: _) _
  refine gy_newI hB hA (by omega) h2 (Zr_sR (hZ.up (by omega)) (by omega)) (by decide) (by decide) (by decide) (by show _ ≤ 3; decide) (by show _ ≤ 310; decide) dX3_init_19 ?_
  refine gy_putR2 hB hnm fX3_23 rfl dX3_init_21 h0 (by omega) (by omega) (fun _ => rfl) (fun _ => rfl) ?_
  refine gy_aload_n hB dX3_init_24 rfl ?_
  refine gy_bipush (v := iI 64) hB dX3_init_25 (by decide) ?_
  refine gy_newI hB hA (by omega) h3 (Zr_sR (hZ.up (by omega)) (by omega)) (by decide) (by decide) (by decide) (by show _ ≤ 3; decide) (by show _ ≤ 310; decide) dX3_init_27 ?_
  refine gy_putR2 hB hnm fX3_26 rfl dX3_init_29 h0 (by omega) (by omega) (fun _ => rfl) (fun _ => rfl) ?_
  exact gy_vret (n1 := q + 4) (mc := 3) (ms := 310) hB hlk hrt dX3_init_32 hK
theorem cy_X5_init {l : Launch} {D : va_G} {cA ad : Nat → Nat} {d q : Nat} {tw : Nat} {σ : AS} {K : Option Value → AS → Prop} (hA : AdS ad) (hq : q + 4 ≤ nC) (h0 : sh[q]? = some (0, 5)) (h1 : sh[q + 1]? = some (1, 10)) (h2 : sh[q + 2]? = some (1, 10)) (h3 : sh[q + 3]? = some (1, 19)) (hZ : Zr σ q) (hK : K none (sR σ q (va_up (va_up (va_up (va_up (fun _ => none) 1 (some (q + 1))) 2 (some (q + 2))) 3 (some (q + 3))) 4 (some tw)))) : CallY l D cA ad (d + 2) 3 39 mX5_init [.ref q, .ref tw] (q + 1) (q + 4) σ K := by
  refine cally_gy (by decide) (Nat.le_of_ble_eq_true rfl) (fun p e s m args below meth c hB hI hnm hlk hrt => ?_)
  show GY p l e _ s m args below meth c _ D cA ad _ 0 0 (q + 1) 0 [.ref q, .ref tw] [] σ
  refine gy_id (hZ q (Nat.le_refl q)).2.2 ?_
  refine gy_aload_n hB dX5_init_0 rfl ?_
  refine gy_obj hB ⟨by show 1 ≤ d + 2; omega, by show 40 ≤ 40 * (d + 2); omega⟩ (Nat.le_of_ble_eq_true rfl) (tb_t 284 (by decide +kernel) (by decide +kernel)) oI_i oI_c dX5_init_1 ?_
  refine gy_aload_n hB dX5_init_4 rfl ?_
  refine gy_bipush (v := iI 10) hB dX5_init_5 (by decide) ?_
  refine gy_newI hB hA (by omega) h1 (Zr_sR (hZ.up (by omega)) (by omega)) (by decide) (by decide) (by decide) (by show _ ≤ 3; decide) (by show _ ≤ 39; decide) dX5_init_7 ?_
  refine gy_putR2 hB hnm fX5_9 rfl dX5_init_9 h0 (by omega) (by omega) (fun _ => rfl) (fun _ => rfl) ?_
  refine gy_aload_n hB dX5_init_12 rfl ?_
  refine gy_bipush (v := iI 10) hB dX5_init_13 (by decide) ?_
  refine gy_newI hB hA (by omega) h2 (Zr_sR (hZ.up (by omega)) (by omega)) (by decide) (by decide) (by decide) (by show _ ≤ 3; decide) (by show _ ≤ 39; decide) dX5_init_15 ?_
  refine gy_putR2 hB hnm fX5_15 rfl dX5_init_17 h0 (by omega) (by omega) (fun _ => rfl) (fun _ => rfl) ?_
  refine gy_aload_n hB dX5_init_20 rfl ?_
  refine gy_bipush (v := iI 19) hB dX5_init_21 (by decide) ?_
  refine gy_newI hB hA (by omega) h3 (Zr_sR (hZ.up (by omega)) (by omega)) (by decide) (by decide) (by decide) (by show _ ≤ 3; decide) (by show _ ≤ 39; decide) dX5_init_23 ?_
  refine gy_putR2 hB hnm fX5_18 rfl dX5_init_25 h0 (by omega) (by omega) (fun _ => rfl) (fun _ => rfl) ?_
  refine gy_aload_n hB dX5_init_28 rfl ?_
  refine gy_aload_n hB dX5_init_29 rfl ?_
  refine gy_putR2 hB hnm fX5_21 rfl dX5_init_30 h0 (by omega) (by omega) (fun _ => rfl) (fun _ => rfl) ?_
  exact gy_vret (n1 := q + 4) (mc := 3) (ms := 39) hB hlk hrt dX5_init_33 hK
