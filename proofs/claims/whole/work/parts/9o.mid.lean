/-! constructors: Town, LawReader, Outlook, Course -/
theorem sR_comm {σ : AS} {a b : Nat} {f g : Nat → Option Nat} (h : a ≠ b) : sR (sR σ a f) b g = sR (sR σ b g) a f := by
  unfold sR
  refine Prod.ext rfl (Prod.ext rfl ?_)
  funext k
  dsimp only
  by_cases h1 : k = b
  · subst h1; rw [if_pos rfl, if_neg (fun e => h e.symm), if_pos rfl]
  · rw [if_neg h1]
    by_cases h2 : k = a
    · rw [if_pos h2, if_pos h2]
    · rw [if_neg h2, if_neg h2, if_neg h1]
section GYS
variable {p : Program} {l : Launch} {e : Env} {R : Room} {s : State} {m : MethodId} {args : Array Value} {below : List Frame} {meth : Method} {c : Code} {Q : State → Prop} {D : va_G} {cA ad : Nat → Nat} {nL cells slots n pc : Nat} {lv st : List Value} {σ : AS} {own : String} {cc : ByteArray}
theorem gy_idA {k q : Nat} (hZ : Zr σ k) (h : k ≤ q) (kk : GY p l e R s m args below meth c Q D cA ad nL cells slots n pc lv st (sR σ q (fun _ => none))) : GY p l e R s m args below meth c Q D cA ad nL cells slots n pc lv st σ := gy_id (hZ q h).2.2 kk
theorem gy_aast2 {k t N v ci : Nat} {f : Nat → Option Nat} {C : String} {T : u_T} {M : Nat} {x : Int32} (hB : BX p s m args c D cA ad own cc nL) (hn : n ≤ nC) (hRA : (tysA cA)[t + 3]? = some (cA (t + 3), .object C)) (hs : sh[k]? = some (t + 4, N)) (hk : k < n) (hsv : sh[v]? = some (0, ci)) (hv : v < n) (hq : cls[ci]? = some (C, T, M)) (hin : vp_in x N) (hd : decode cc pc = .ok (.aastore, 1)) (kk : GY p l e R s m args below meth c Q D cA ad nL cells slots n (pc + 1) lv st (sR σ k (va_up f x.toNatClampNeg (some v)))) : GY p l e R s m args below meth c Q D cA ad nL cells slots n pc lv (.ref v :: .int x :: .ref k :: st) (sR σ k f) := by
  refine gy_aast hB hn hRA hs hk hsv hv hq hin hd ?_
  rw [sR_sR, sR_at]
  exact kk
end GYS
theorem cy_X9_init {l : Launch} {D : va_G} {cA ad : Nat → Nat} {d q : Nat} {σ : AS} {K : Option Value → AS → Prop} (hA : AdS ad) (hq : q + 20 ≤ nC) (h0 : sh[q]? = some (0, 9)) (h1 : sh[q + 1]? = some (1, 3)) (h2 : sh[q + 2]? = some (6, 7)) (h3 : ∀ j, j < 7 → sh[q + 2 + 1 + j]? = some (1, 9)) (h10 : sh[q + 10]? = some (6, 9)) (h11 : ∀ j, j < 9 → sh[q + 10 + 1 + j]? = some (1, 5)) (hZ : Zr σ q) (hK : K none (sR (sR (sR σ (q + 2) (fun j => if j < 7 then some ((q + 2) + 1 + j) else none)) (q + 10) (fun j => if j < 9 then some ((q + 10) + 1 + j) else none)) q (va_up (va_up (va_up (fun _ => none) 0 (some (q + 1))) 1 (some (q + 2))) 2 (some (q + 10))))) : CallY l D cA ad (d + 2) 19 127 mX9_init [.ref q] (q + 1) (q + 20) σ K := by
  refine cally_gy (by decide) (Nat.le_of_ble_eq_true rfl) (fun p e s m args below meth c hB hI hnm hlk hrt => ?_)
  show GY p l e _ s m args below meth c _ D cA ad _ 0 0 (q + 1) 0 [.ref q] [] σ
  refine gy_id (hZ q (Nat.le_refl q)).2.2 ?_
  refine gy_aload_n hB dX9_init_0 rfl ?_
  refine gy_obj hB ⟨by show 1 ≤ d + 2; omega, by show 40 ≤ 40 * (d + 2); omega⟩ (Nat.le_of_ble_eq_true rfl) (tb_t 61 (by decide +kernel) (by decide +kernel)) oI_i oI_c dX9_init_1 ?_
  refine gy_aload_n hB dX9_init_4 rfl ?_
  refine gy_ldcS (i := 0) hB (by decide) rfl dX9_init_5 ?_
  refine gy_callVs (d := d + 1) (i := 0) (as := []) hB hI (by decide) wLen9 rfl ⟨by show d + 1 + 1 ≤ d + 2; omega, by show 40 * (d + 1 + 1) ≤ 40 * (d + 2); omega, (by show _ ≤ 19; decide), (by show _ ≤ 127; decide)⟩ dX9_init_7 rfl rfl (Nat.le_of_ble_eq_true rfl) (cy_length (by decide) ?_)
  show GY p l e _ s m args below meth c _ D cA ad _ _ _ _ _ _ (.int (iI 3) :: _) _
  refine gy_newI hB hA (by omega) h1 (Zr_sR (hZ.up (by omega)) (by omega)) (by decide) (by decide) (by decide) (by show _ ≤ 19; decide) (by show _ ≤ 127; decide) dX9_init_10 ?_
  refine gy_putR2 hB hnm fX9_17 rfl dX9_init_12 h0 (by omega) (by omega) (fun _ => rfl) (fun _ => rfl) ?_
  refine gy_aload_n hB dX9_init_15 rfl ?_
  refine gy_bipush (v := iI 7) hB dX9_init_16 (by decide) ?_
  refine gy_ldcS (i := 1) hB (by decide) rfl dX9_init_18 ?_
  refine gy_callVs (d := d + 1) (i := 1) (as := []) hB hI (by decide) wLen9 rfl ⟨by show d + 1 + 1 ≤ d + 2; omega, by show 40 * (d + 1 + 1) ≤ 40 * (d + 2); omega, (by show _ ≤ 19; decide), (by show _ ≤ 127; decide)⟩ dX9_init_20 rfl rfl (Nat.le_of_ble_eq_true rfl) (cy_length (by decide) ?_)
  show GY p l e _ s m args below meth c _ D cA ad _ _ _ _ _ _ (.int (iI 9) :: _) _
  refine gy_mna (N := 7) (M := 9) hB hA (by omega) (tb_t 74 (by decide +kernel) (by decide +kernel)) hI.2.2.2 h2 h3 (Zr_sR (hZ.up (by omega)) (by omega)) (by decide) (by decide) (by decide) (by decide) (by decide) (by decide) (by show _ ≤ 19; decide) (by show _ ≤ 127; decide) dX9_init_23 ?_
  rw [sR_comm (a := q) (b := (q + 2)) (by omega)]
  refine gy_putR2 hB hnm fX9_27 rfl dX9_init_27 h0 (by omega) (by omega) (fun _ => rfl) (fun _ => rfl) ?_
  refine gy_aload_n hB dX9_init_30 rfl ?_
  refine gy_bipush (v := iI 9) hB dX9_init_31 (by decide) ?_
  refine gy_ldcS (i := 2) hB (by decide) rfl dX9_init_33 ?_
  refine gy_callVs (d := d + 1) (i := 2) (as := []) hB hI (by decide) wLen9 rfl ⟨by show d + 1 + 1 ≤ d + 2; omega, by show 40 * (d + 1 + 1) ≤ 40 * (d + 2); omega, (by show _ ≤ 19; decide), (by show _ ≤ 127; decide)⟩ dX9_init_35 rfl rfl (Nat.le_of_ble_eq_true rfl) (cy_length (by decide) ?_)
  show GY p l e _ s m args below meth c _ D cA ad _ _ _ _ _ _ (.int (iI 5) :: _) _
  refine gy_mna (N := 9) (M := 5) hB hA (by omega) (tb_t 74 (by decide +kernel) (by decide +kernel)) hI.2.2.2 h10 h11 (Zr_sR (Zr_sR (hZ.up (by omega)) (by omega)) (by omega)) (by decide) (by decide) (by decide) (by decide) (by decide) (by decide) (by show _ ≤ 19; decide) (by show _ ≤ 127; decide) dX9_init_38 ?_
  rw [sR_comm (a := q) (b := (q + 10)) (by omega)]
  refine gy_putR2 hB hnm fX9_32 rfl dX9_init_42 h0 (by omega) (by omega) (fun _ => rfl) (fun _ => rfl) ?_
  exact gy_vret (n1 := 0) (mc := 0) (ms := 0) hB hlk hrt dX9_init_45 hK
theorem cy_X4_init {l : Launch} {D : va_G} {cA ad : Nat → Nat} {d q : Nat} {tp : Nat} {σ : AS} {K : Option Value → AS → Prop} (hA : AdS ad) (hq : q + 5 ≤ nC) (h0 : sh[q]? = some (0, 4)) (h1 : sh[q + 1]? = some (0, 3)) (h2 : sh[q + 2]? = some (1, 240)) (h3 : sh[q + 3]? = some (1, 6)) (h4 : sh[q + 4]? = some (1, 64)) (hZ : Zr σ q) (hK : K none (sR (sR σ (q + 1) (va_up (va_up (va_up (fun _ => none) 0 (some (q + 2))) 2 (some (q + 3))) 3 (some (q + 4)))) q (va_up (va_up (fun _ => none) 0 (some (q + 1))) 1 (some tp)))) : CallY l D cA ad (d + 5) 4 314 mX4_init [.ref q, .ref tp] (q + 1) (q + 5) σ K := by
  refine cally_gy (by decide) (Nat.le_of_ble_eq_true rfl) (fun p e s m args below meth c hB hI hnm hlk hrt => ?_)
  show GY p l e _ s m args below meth c _ D cA ad _ 0 0 (q + 1) 0 [.ref q, .ref tp] [] σ
  refine gy_id (hZ q (Nat.le_refl q)).2.2 ?_
  refine gy_aload_n hB dX4_init_0 rfl ?_
  refine gy_obj hB ⟨by show 1 ≤ d + 5; omega, by show 40 ≤ 40 * (d + 5); omega⟩ (Nat.le_of_ble_eq_true rfl) (tb_t 121 (by decide +kernel) (by decide +kernel)) oI_i oI_c dX4_init_1 ?_
  refine gy_aload_n hB dX4_init_4 rfl ?_
  refine gy_new (T := TX3) (N := 4) hB hA (by omega) (tb_t 122 (by decide +kernel) (by decide +kernel)) (tb_t 123 (by decide +kernel) (by decide +kernel)) (tb_t 6 (by decide +kernel) (by decide +kernel)) h1 rfl (Zr_sR (hZ.up (by omega)) (by omega)) (by show _ ≤ 4; decide) (by show _ ≤ 314; decide) dX4_init_5 ?_
  refine gy_dup hB dX4_init_8 rfl ?_
  refine gy_callN (d := d + 2) (as := []) hB hI (List.mem_of_getElem? (i := 2) rfl) kX3_init ⟨by show d + 2 + 1 ≤ d + 5; omega, by show 40 * (d + 2 + 1) ≤ 40 * (d + 5); omega, (by show _ ≤ 4; decide), (by show _ ≤ 314; decide)⟩ dX4_init_9 rfl rfl (Nat.le_of_ble_eq_true rfl) (cy_X3_init hA (by omega) h1 h2 h3 h4 (Zr_sR (hZ.up (by omega)) (by omega)) ⟨rfl, ?_⟩)
  rw [sR_comm (a := q) (b := (q + 1)) (by omega)]
  refine gy_putR2 hB hnm fX4_12 rfl dX4_init_12 h0 (by omega) (by omega) (fun _ => rfl) (fun _ => rfl) ?_
  refine gy_aload_n hB dX4_init_15 rfl ?_
  refine gy_aload_n hB dX4_init_16 rfl ?_
  refine gy_putR2 hB hnm fX4_18 rfl dX4_init_17 h0 (by omega) (by omega) (fun _ => rfl) (fun _ => rfl) ?_
  exact gy_vret (n1 := 0) (mc := 0) (ms := 0) hB hlk hrt dX4_init_20 hK
theorem cy_X6_init {l : Launch} {D : va_G} {cA ad : Nat → Nat} {d q : Nat} {tw co no : Nat} {σ : AS} {K : Option Value → AS → Prop} (hA : AdS ad) (hq : q + 6 ≤ nC) (h0 : sh[q]? = some (0, 6)) (h1 : sh[q + 1]? = some (0, 10)) (h2 : sh[q + 2]? = some (1, 7)) (h3 : sh[q + 3]? = some (1, 7)) (h4 : sh[q + 4]? = some (1, 7)) (h5 : sh[q + 5]? = some (1, 4)) (hZ : Zr σ q) (hK : K none (sR (sR σ (q + 1) (va_up (va_up (va_up (fun _ => none) 0 (some (q + 2))) 1 (some (q + 3))) 2 (some (q + 4)))) q (va_up (va_up (va_up (va_up (va_up (fun _ => none) 0 (some (q + 1))) 1 (some (q + 5))) 2 (some tw)) 3 (some co)) 4 (some no)))) : CallY l D cA ad (d + 5) 5 31 mX6_init [.ref q, .ref tw, .ref co, .ref no] (q + 1) (q + 6) σ K := by
  refine cally_gy (by decide) (Nat.le_of_ble_eq_true rfl) (fun p e s m args below meth c hB hI hnm hlk hrt => ?_)
  show GY p l e _ s m args below meth c _ D cA ad _ 0 0 (q + 1) 0 [.ref q, .ref tw, .ref co, .ref no] [] σ
  refine gy_id (hZ q (Nat.le_refl q)).2.2 ?_
  refine gy_aload_n hB dX6_init_0 rfl ?_
  refine gy_obj hB ⟨by show 1 ≤ d + 5; omega, by show 40 ≤ 40 * (d + 5); omega⟩ (Nat.le_of_ble_eq_true rfl) (tb_t 307 (by decide +kernel) (by decide +kernel)) oI_i oI_c dX6_init_1 ?_
  refine gy_aload_n hB dX6_init_4 rfl ?_
  refine gy_new (T := TX10) (N := 6) hB hA (by omega) (tb_t 308 (by decide +kernel) (by decide +kernel)) (tb_t 206 (by decide +kernel) (by decide +kernel)) (tb_t 9 (by decide +kernel) (by decide +kernel)) h1 rfl (Zr_sR (hZ.up (by omega)) (by omega)) (by show _ ≤ 5; decide) (by show _ ≤ 31; decide) dX6_init_5 ?_
  refine gy_dup hB dX6_init_8 rfl ?_
  refine gy_callN (d := d + 2) (as := []) hB hI (List.mem_of_getElem? (i := 8) rfl) kX10_init ⟨by show d + 2 + 1 ≤ d + 5; omega, by show 40 * (d + 2 + 1) ≤ 40 * (d + 5); omega, (by show _ ≤ 5; decide), (by show _ ≤ 31; decide)⟩ dX6_init_9 rfl rfl (Nat.le_of_ble_eq_true rfl) (cy_X10_init hA (by omega) h1 h2 h3 h4 (Zr_sR (hZ.up (by omega)) (by omega)) ⟨rfl, ?_⟩)
  rw [sR_comm (a := q) (b := (q + 1)) (by omega)]
  refine gy_putR2 hB hnm fX6_12 rfl dX6_init_12 h0 (by omega) (by omega) (fun _ => rfl) (fun _ => rfl) ?_
  refine gy_aload_n hB dX6_init_15 rfl ?_
  refine gy_iconst (v := iI 4) hB dX6_init_16 (by decide) ?_
  refine gy_newI hB hA (by omega) h5 (Zr_sR (Zr_sR (hZ.up (by omega)) (by omega)) (by omega)) (by decide) (by decide) (by decide) (by show _ ≤ 5; decide) (by show _ ≤ 31; decide) dX6_init_17 ?_
  refine gy_putR2 hB hnm fX6_18 rfl dX6_init_19 h0 (by omega) (by omega) (fun _ => rfl) (fun _ => rfl) ?_
  refine gy_aload_n hB dX6_init_22 rfl ?_
  refine gy_aload_n hB dX6_init_23 rfl ?_
  refine gy_putR2 hB hnm fX6_22 rfl dX6_init_24 h0 (by omega) (by omega) (fun _ => rfl) (fun _ => rfl) ?_
  refine gy_aload_n hB dX6_init_27 rfl ?_
  refine gy_aload_n hB dX6_init_28 rfl ?_
  refine gy_putR2 hB hnm fX6_26 rfl dX6_init_29 h0 (by omega) (by omega) (fun _ => rfl) (fun _ => rfl) ?_
  refine gy_aload_n hB dX6_init_32 rfl ?_
  refine gy_aload_n hB dX6_init_33 rfl ?_
  refine gy_putR2 hB hnm fX6_30 rfl dX6_init_34 h0 (by omega) (by omega) (fun _ => rfl) (fun _ => rfl) ?_
  exact gy_vret (n1 := 0) (mc := 0) (ms := 0) hB hlk hrt dX6_init_37 hK
