/-! Course (cell 48) -/
theorem sI_sR {σ : AS} {a k j : Nat} {f : Nat → Option Nat} {x : Int32} : sI (sR σ k f) a (upd ((sR σ k f).1 a) j x) = sR (sI σ a (upd (σ.1 a) j x)) k f := rfl
theorem cy_X2_init {l : Launch} {D : va_G} {cA ad : Nat → Nat} {d : Nat} {tw : Nat} {σ : AS} {K : Option Value → AS → Prop} (hA : AdS ad) (hZ : Zr σ 48) (hK : K none (sR (sR (sR (sR (sR (sR (sI σ 48 (upd (σ.1 48) 2 (iI (-1)))) 48 (va_up (va_up (fun _ => none) 0 (some 49)) 3 (some tw))) 50 (va_up (va_up (va_up (fun _ => none) 0 (some 51)) 2 (some 52)) 3 (some 53))) 54 (va_up (va_up (va_up (fun _ => none) 0 (some 55)) 2 (some 56)) 3 (some 57))) 58 (va_up (va_up (va_up (fun _ => none) 0 (some 59)) 2 (some 60)) 3 (some 61))) 62 (va_up (va_up (va_up (fun _ => none) 0 (some 63)) 2 (some 64)) 3 (some 65))) 49 (va_up (va_up (va_up (va_up (fun _ => none) 0 (some 50)) 1 (some 54)) 2 (some 58)) 3 (some 62)))) : CallY l D cA ad (d + 5) 17 1260 mX2_init [.ref 48, .ref tw] 49 66 σ K := by
  refine cally_gy (by decide) (Nat.le_of_ble_eq_true rfl) (fun p e s m args below meth c hB hI hnm hlk hrt => ?_)
  show GY p l e _ s m args below meth c _ D cA ad _ 0 0 49 0 [.ref 48, .ref tw, .null] [] σ
  refine gy_id (q := 48) (hZ 48 (Nat.le_refl _)).2.2 ?_
  refine gy_aload_n hB dX2_init_0 rfl ?_
  refine gy_obj hB ⟨by show 1 ≤ d + 5; omega, by show 40 ≤ 40 * (d + 5); omega⟩ (Nat.le_of_ble_eq_true rfl) (tb_t 157 (by decide +kernel) (by decide +kernel)) oI_i oI_c dX2_init_1 ?_
  refine gy_aload_n hB dX2_init_4 rfl ?_
  refine gy_iconst (v := iI 4) hB dX2_init_5 (by decide) ?_
  refine gy_anew (t := 0) hB hA (by decide) (tb_t 158 (by decide +kernel) (by decide +kernel)) hI.2.1 rfl rfl (Zr_sR (hZ.up (by decide)) (by decide)) (by decide) (by decide) (by decide) (by show _ ≤ 17; decide) (by show _ ≤ 1260; decide) dX2_init_6 ?_
  refine gy_idA (k := 49) (q := 49) (Zr_sR (hZ.up (by decide)) (by decide)) (Nat.le_refl _) ?_
  rw [sR_comm (a := 48) (b := 49) (by decide)]
  refine gy_putR2 hB hnm fX2_11 rfl dX2_init_9 rfl (by decide) (by decide) (fun _ => rfl) (fun _ => rfl) ?_
  refine gy_aload_n hB dX2_init_12 rfl ?_
  refine gy_iconst (v := iI (-1)) hB dX2_init_13 (by decide) ?_
  refine gy_putI hB hnm fX2_17 rfl dX2_init_14 rfl (by decide) (by decide) rfl rfl ?_
  simp only [sI_sR]
  refine gy_aload_n hB dX2_init_17 rfl ?_
  refine gy_aload_n hB dX2_init_18 rfl ?_
  refine gy_putR2 hB hnm fX2_21 rfl dX2_init_19 rfl (by decide) (by decide) (fun _ => rfl) (fun _ => rfl) ?_
  refine gy_iconst (v := iI 0) hB dX2_init_22 (by decide) ?_
  refine gy_istore_n hB dX2_init_23 (by decide) rfl ?_
  refine gy_iload_n hB dX2_init_24 rfl ?_
  refine gy_iconst (v := iI 4) hB dX2_init_25 (by decide) ?_
  refine gy_icmp_ge (tgt := 48) hB dX2_init_26 (by decide) (fun h => absurd h (by decide)) (fun _ => ?_)
  refine gy_aload_n hB dX2_init_29 rfl ?_
  refine gy_getR (a := 49) hB fX2_11 dX2_init_30 rfl (by decide) rfl ?_
  refine gy_iload_n hB dX2_init_33 rfl ?_
  refine gy_new (T := TX3) (N := 4) hB hA (by decide) (tb_t 158 (by decide +kernel) (by decide +kernel)) (tb_t 123 (by decide +kernel) (by decide +kernel)) (tb_t 6 (by decide +kernel) (by decide +kernel)) rfl rfl (Zr_sR (Zr_sR (Zr_sI (hZ.up (by decide)) (by decide)) (by decide)) (by decide)) (by show _ ≤ 17; decide) (by show _ ≤ 1260; decide) dX2_init_34 ?_
  refine gy_dup hB dX2_init_37 rfl ?_
  refine gy_callN (d := d + 2) (as := []) hB hI (List.mem_of_getElem? (i := 3) rfl) kX3_init ⟨by show d + 2 + 1 ≤ d + 5; omega, by show 40 * (d + 2 + 1) ≤ 40 * (d + 5); omega, (by show _ ≤ 17; decide), (by show _ ≤ 1260; decide)⟩ dX2_init_38 rfl rfl (Nat.le_of_ble_eq_true rfl) (cy_X3_init hA (by decide) rfl rfl rfl rfl (Zr_sR (Zr_sR (Zr_sI (hZ.up (by decide)) (by decide)) (by decide)) (by decide)) ⟨rfl, ?_⟩)
  rw [sR_comm (a := 49) (b := 48) (by decide)]
  rw [sR_comm (a := 49) (b := 50) (by decide)]
  refine gy_aast2 (t := 0) (T := TX3) (M := 4) hB (by decide) rfl rfl (by decide) rfl (by decide) rfl (by unfold vp_in; decide) dX2_init_41 ?_
  rw [show (iI 0).toNatClampNeg = 0 by decide]
  refine gy_iinc hB dX2_init_42 rfl (by decide) rfl ?_
  refine gy_goto (tgt := 24) hB dX2_init_45 (by decide) ?_
  refine gy_iload_n hB dX2_init_24 rfl ?_
  refine gy_iconst (v := iI 4) hB dX2_init_25 (by decide) ?_
  refine gy_icmp_ge (tgt := 48) hB dX2_init_26 (by decide) (fun h => absurd h (by decide)) (fun _ => ?_)
  refine gy_aload_n hB dX2_init_29 rfl ?_
  refine gy_getR (a := 49) hB fX2_11 dX2_init_30 rfl (by decide) rfl ?_
  refine gy_iload_n hB dX2_init_33 rfl ?_
  refine gy_new (T := TX3) (N := 4) hB hA (by decide) (tb_t 158 (by decide +kernel) (by decide +kernel)) (tb_t 123 (by decide +kernel) (by decide +kernel)) (tb_t 6 (by decide +kernel) (by decide +kernel)) rfl rfl (Zr_sR (Zr_sR (Zr_sR (Zr_sI (hZ.up (by decide)) (by decide)) (by decide)) (by decide)) (by decide)) (by show _ ≤ 17; decide) (by show _ ≤ 1260; decide) dX2_init_34 ?_
  refine gy_dup hB dX2_init_37 rfl ?_
  refine gy_callN (d := d + 2) (as := []) hB hI (List.mem_of_getElem? (i := 3) rfl) kX3_init ⟨by show d + 2 + 1 ≤ d + 5; omega, by show 40 * (d + 2 + 1) ≤ 40 * (d + 5); omega, (by show _ ≤ 17; decide), (by show _ ≤ 1260; decide)⟩ dX2_init_38 rfl rfl (Nat.le_of_ble_eq_true rfl) (cy_X3_init hA (by decide) rfl rfl rfl rfl (Zr_sR (Zr_sR (Zr_sR (Zr_sI (hZ.up (by decide)) (by decide)) (by decide)) (by decide)) (by decide)) ⟨rfl, ?_⟩)
  rw [sR_comm (a := 49) (b := 54) (by decide)]
  refine gy_aast2 (t := 0) (T := TX3) (M := 4) hB (by decide) rfl rfl (by decide) rfl (by decide) rfl (by unfold vp_in; decide) dX2_init_41 ?_
  rw [show ((iI 0 + Int32.ofInt 1)).toNatClampNeg = 1 by decide]
  refine gy_iinc hB dX2_init_42 rfl (by decide) rfl ?_
  refine gy_goto (tgt := 24) hB dX2_init_45 (by decide) ?_
  refine gy_iload_n hB dX2_init_24 rfl ?_
  refine gy_iconst (v := iI 4) hB dX2_init_25 (by decide) ?_
  refine gy_icmp_ge (tgt := 48) hB dX2_init_26 (by decide) (fun h => absurd h (by decide)) (fun _ => ?_)
  refine gy_aload_n hB dX2_init_29 rfl ?_
  refine gy_getR (a := 49) hB fX2_11 dX2_init_30 rfl (by decide) rfl ?_
  refine gy_iload_n hB dX2_init_33 rfl ?_
  refine gy_new (T := TX3) (N := 4) hB hA (by decide) (tb_t 158 (by decide +kernel) (by decide +kernel)) (tb_t 123 (by decide +kernel) (by decide +kernel)) (tb_t 6 (by decide +kernel) (by decide +kernel)) rfl rfl (Zr_sR (Zr_sR (Zr_sR (Zr_sR (Zr_sI (hZ.up (by decide)) (by decide)) (by decide)) (by decide)) (by decide)) (by decide)) (by show _ ≤ 17; decide) (by show _ ≤ 1260; decide) dX2_init_34 ?_
  refine gy_dup hB dX2_init_37 rfl ?_
  refine gy_callN (d := d + 2) (as := []) hB hI (List.mem_of_getElem? (i := 3) rfl) kX3_init ⟨by show d + 2 + 1 ≤ d + 5; omega, by show 40 * (d + 2 + 1) ≤ 40 * (d + 5); omega, (by show _ ≤ 17; decide), (by show _ ≤ 1260; decide)⟩ dX2_init_38 rfl rfl (Nat.le_of_ble_eq_true rfl) (cy_X3_init hA (by decide) rfl rfl rfl rfl (Zr_sR (Zr_sR (Zr_sR (Zr_sR (Zr_sI (hZ.up (by decide)) (by decide)) (by decide)) (by decide)) (by decide)) (by decide)) ⟨rfl, ?_⟩)
  rw [sR_comm (a := 49) (b := 58) (by decide)]
  refine gy_aast2 (t := 0) (T := TX3) (M := 4) hB (by decide) rfl rfl (by decide) rfl (by decide) rfl (by unfold vp_in; decide) dX2_init_41 ?_
  rw [show (((iI 0 + Int32.ofInt 1) + Int32.ofInt 1)).toNatClampNeg = 2 by decide]
  refine gy_iinc hB dX2_init_42 rfl (by decide) rfl ?_
  refine gy_goto (tgt := 24) hB dX2_init_45 (by decide) ?_
  refine gy_iload_n hB dX2_init_24 rfl ?_
  refine gy_iconst (v := iI 4) hB dX2_init_25 (by decide) ?_
  refine gy_icmp_ge (tgt := 48) hB dX2_init_26 (by decide) (fun h => absurd h (by decide)) (fun _ => ?_)
  refine gy_aload_n hB dX2_init_29 rfl ?_
  refine gy_getR (a := 49) hB fX2_11 dX2_init_30 rfl (by decide) rfl ?_
  refine gy_iload_n hB dX2_init_33 rfl ?_
  refine gy_new (T := TX3) (N := 4) hB hA (by decide) (tb_t 158 (by decide +kernel) (by decide +kernel)) (tb_t 123 (by decide +kernel) (by decide +kernel)) (tb_t 6 (by decide +kernel) (by decide +kernel)) rfl rfl (Zr_sR (Zr_sR (Zr_sR (Zr_sR (Zr_sR (Zr_sI (hZ.up (by decide)) (by decide)) (by decide)) (by decide)) (by decide)) (by decide)) (by decide)) (by show _ ≤ 17; decide) (by show _ ≤ 1260; decide) dX2_init_34 ?_
  refine gy_dup hB dX2_init_37 rfl ?_
  refine gy_callN (d := d + 2) (as := []) hB hI (List.mem_of_getElem? (i := 3) rfl) kX3_init ⟨by show d + 2 + 1 ≤ d + 5; omega, by show 40 * (d + 2 + 1) ≤ 40 * (d + 5); omega, (by show _ ≤ 17; decide), (by show _ ≤ 1260; decide)⟩ dX2_init_38 rfl rfl (Nat.le_of_ble_eq_true rfl) (cy_X3_init hA (by decide) rfl rfl rfl rfl (Zr_sR (Zr_sR (Zr_sR (Zr_sR (Zr_sR (Zr_sI (hZ.up (by decide)) (by decide)) (by decide)) (by decide)) (by decide)) (by decide)) (by decide)) ⟨rfl, ?_⟩)
  rw [sR_comm (a := 49) (b := 62) (by decide)]
  refine gy_aast2 (t := 0) (T := TX3) (M := 4) hB (by decide) rfl rfl (by decide) rfl (by decide) rfl (by unfold vp_in; decide) dX2_init_41 ?_
  rw [show ((((iI 0 + Int32.ofInt 1) + Int32.ofInt 1) + Int32.ofInt 1)).toNatClampNeg = 3 by decide]
  refine gy_iinc hB dX2_init_42 rfl (by decide) rfl ?_
  refine gy_goto (tgt := 24) hB dX2_init_45 (by decide) ?_
  refine gy_iload_n hB dX2_init_24 rfl ?_
  refine gy_iconst (v := iI 4) hB dX2_init_25 (by decide) ?_
  refine gy_icmp_ge (tgt := 48) hB dX2_init_26 (by decide) (fun _ => ?_) (fun h => absurd (by decide) h)
  exact gy_vret (n1 := 0) (mc := 0) (ms := 0) hB hlk hrt dX2_init_48 hK
