/-! PondRoofs (cell 0) -/
theorem cy_X11_init {l : Launch} {D : va_G} {cA ad : Nat → Nat} {d : Nat} {σ : AS} {K : Option Value → AS → Prop} (hA : AdS ad) (hZ : Zr σ 0) (hK : K none (sR (sR (sR (sR (sR (sR (sR (sR (sR (sR (sR (sR (sR (sR (sR (sR (sR (sR (sR (sR (sR (sR (sR (sR (sR (sR (sR (sR (sR (sR (sI (sI σ 48 (upd (σ.1 48) 2 (iI (-1)))) 0 (upd ((sI σ 48 (upd (σ.1 48) 2 (iI (-1)))).1 0) 16 (iI 20))) 1 (va_up (fun _ => none) 0 (some 2))) 5 (fun j => if j < 7 then some (5 + 1 + j) else none)) 13 (fun j => if j < 9 then some (13 + 1 + j) else none)) 3 (va_up (va_up (va_up (fun _ => none) 0 (some 4)) 1 (some 5)) 2 (some 13))) 25 (fun j => if j < 7 then some (25 + 1 + j) else none)) 33 (fun j => if j < 9 then some (33 + 1 + j) else none)) 23 (va_up (va_up (va_up (fun _ => none) 0 (some 24)) 1 (some 25)) 2 (some 33))) 44 (va_up (va_up (va_up (fun _ => none) 0 (some 45)) 2 (some 46)) 3 (some 47))) 43 (va_up (va_up (fun _ => none) 0 (some 44)) 1 (some 1))) 48 (va_up (va_up (fun _ => none) 0 (some 49)) 3 (some 3))) 50 (va_up (va_up (va_up (fun _ => none) 0 (some 51)) 2 (some 52)) 3 (some 53))) 54 (va_up (va_up (va_up (fun _ => none) 0 (some 55)) 2 (some 56)) 3 (some 57))) 58 (va_up (va_up (va_up (fun _ => none) 0 (some 59)) 2 (some 60)) 3 (some 61))) 62 (va_up (va_up (va_up (fun _ => none) 0 (some 63)) 2 (some 64)) 3 (some 65))) 49 (va_up (va_up (va_up (va_up (fun _ => none) 0 (some 50)) 1 (some 54)) 2 (some 58)) 3 (some 62))) 67 (va_up (va_up (va_up (fun _ => none) 0 (some 68)) 1 (some 69)) 2 (some 70))) 71 (va_up (va_up (va_up (fun _ => none) 0 (some 72)) 1 (some 73)) 2 (some 74))) 75 (va_up (va_up (va_up (fun _ => none) 0 (some 76)) 1 (some 77)) 2 (some 78))) 79 (va_up (va_up (va_up (fun _ => none) 0 (some 80)) 1 (some 81)) 2 (some 82))) 66 (va_up (va_up (va_up (va_up (fun _ => none) 0 (some 67)) 1 (some 71)) 2 (some 75)) 3 (some 79))) 83 (va_up (va_up (va_up (fun _ => none) 0 (some 84)) 1 (some 85)) 2 (some 86))) 87 (va_up (va_up (va_up (fun _ => none) 0 (some 88)) 1 (some 89)) 2 (some 90))) 91 (va_up (fun _ => none) 1 (some 92))) 93 (va_up (fun _ => none) 2 (some 94))) 95 (va_up (va_up (va_up (fun _ => none) 0 (some 96)) 1 (some 97)) 2 (some 98))) 99 (va_up (fun _ => none) 1 (some 100))) 101 (va_up (va_up (va_up (va_up (fun _ => none) 1 (some 102)) 2 (some 103)) 3 (some 104)) 4 (some 3))) 106 (va_up (va_up (va_up (fun _ => none) 0 (some 107)) 1 (some 108)) 2 (some 109))) 105 (va_up (va_up (va_up (va_up (va_up (fun _ => none) 0 (some 106)) 1 (some 110)) 2 (some 3)) 3 (some 48)) 4 (some 87))) 0 (va_up (va_up (va_up (va_up (va_up (va_up (va_up (va_up (va_up (va_up (va_up (va_up (va_up (va_up (fun _ => none) 0 (some 1)) 1 (some 3)) 2 (some 23)) 3 (some 43)) 4 (some 48)) 5 (some 66)) 6 (some 83)) 8 (some 87)) 9 (some 91)) 10 (some 93)) 11 (some 95)) 12 (some 99)) 14 (some 101)) 15 (some 105)))) : CallY l D cA ad (d + 8) 110 4094 mX11_init [.ref 0] 1 111 σ K := by
  refine cally_gy (by decide) (Nat.le_of_ble_eq_true rfl) (fun p e s m args below meth c hB hI hnm hlk hrt => ?_)
  show GY p l e _ s m args below meth c _ D cA ad _ 0 0 1 0 [.ref 0, .null] [] σ
  refine gy_id (q := 0) (hZ 0 (Nat.le_refl _)).2.2 ?_
  refine gy_aload_n hB dX11_init_0 rfl ?_
  refine gy_obj hB ⟨by show 1 ≤ d + 8; omega, by show 40 ≤ 40 * (d + 8); omega⟩ (Nat.le_of_ble_eq_true rfl) (tb_t 31 (by decide +kernel) (by decide +kernel)) oI_i oI_c dX11_init_1 ?_
  refine gy_aload_n hB dX11_init_4 rfl ?_
  refine gy_new (T := TX8) (N := 3) hB hA (by decide) (tb_t 34 (by decide +kernel) (by decide +kernel)) (tb_t 35 (by decide +kernel) (by decide +kernel)) (tb_t 2 (by decide +kernel) (by decide +kernel)) rfl rfl (Zr_sR (hZ.up (by decide)) (by decide)) (by show _ ≤ 110; decide) (by show _ ≤ 4094; decide) dX11_init_5 ?_
  refine gy_dup hB dX11_init_8 rfl ?_
  refine gy_callN (d := d + 2) (as := []) hB hI (List.mem_of_getElem? (i := 0) rfl) kX8_init ⟨by show d + 2 + 1 ≤ d + 8; omega, by show 40 * (d + 2 + 1) ≤ 40 * (d + 8); omega, (by show _ ≤ 110; decide), (by show _ ≤ 4094; decide)⟩ dX11_init_9 rfl rfl (Nat.le_of_ble_eq_true rfl) (cy_X8_init hA (by decide) rfl rfl (Zr_sR (hZ.up (by decide)) (by decide)) ⟨rfl, ?_⟩)
  rw [sR_comm (a := 0) (b := 1) (by decide)]
  refine gy_putR2 hB hnm fX11_10 rfl dX11_init_12 rfl (by decide) (by decide) (fun _ => rfl) (fun _ => rfl) ?_
  refine gy_aload_n hB dX11_init_15 rfl ?_
  refine gy_new (T := TX9) (N := 6) hB hA (by decide) (tb_t 56 (by decide +kernel) (by decide +kernel)) (tb_t 57 (by decide +kernel) (by decide +kernel)) (tb_t 3 (by decide +kernel) (by decide +kernel)) rfl rfl (Zr_sR (Zr_sR (hZ.up (by decide)) (by decide)) (by decide)) (by show _ ≤ 110; decide) (by show _ ≤ 4094; decide) dX11_init_16 ?_
  refine gy_dup hB dX11_init_19 rfl ?_
  refine gy_callN (d := d + 2) (as := []) hB hI (List.mem_of_getElem? (i := 1) rfl) kX9_init ⟨by show d + 2 + 1 ≤ d + 8; omega, by show 40 * (d + 2 + 1) ≤ 40 * (d + 8); omega, (by show _ ≤ 110; decide), (by show _ ≤ 4094; decide)⟩ dX11_init_20 rfl rfl (Nat.le_of_ble_eq_true rfl) (cy_X9_init hA (by decide) rfl rfl rfl (by decide +kernel) rfl (by decide +kernel) (Zr_sR (Zr_sR (hZ.up (by decide)) (by decide)) (by decide)) ⟨rfl, ?_⟩)
  rw [sR_comm (a := 0) (b := 5) (by decide)]
  rw [sR_comm (a := 0) (b := 13) (by decide)]
  rw [sR_comm (a := 0) (b := 3) (by decide)]
  refine gy_putR2 hB hnm fX11_19 rfl dX11_init_23 rfl (by decide) (by decide) (fun _ => rfl) (fun _ => rfl) ?_
  refine gy_aload_n hB dX11_init_26 rfl ?_
  refine gy_new (T := TX9) (N := 6) hB hA (by decide) (tb_t 56 (by decide +kernel) (by decide +kernel)) (tb_t 57 (by decide +kernel) (by decide +kernel)) (tb_t 3 (by decide +kernel) (by decide +kernel)) rfl rfl (Zr_sR (Zr_sR (Zr_sR (Zr_sR (Zr_sR (hZ.up (by decide)) (by decide)) (by decide)) (by decide)) (by decide)) (by decide)) (by show _ ≤ 110; decide) (by show _ ≤ 4094; decide) dX11_init_27 ?_
  refine gy_dup hB dX11_init_30 rfl ?_
  refine gy_callN (d := d + 2) (as := []) hB hI (List.mem_of_getElem? (i := 1) rfl) kX9_init ⟨by show d + 2 + 1 ≤ d + 8; omega, by show 40 * (d + 2 + 1) ≤ 40 * (d + 8); omega, (by show _ ≤ 110; decide), (by show _ ≤ 4094; decide)⟩ dX11_init_31 rfl rfl (Nat.le_of_ble_eq_true rfl) (cy_X9_init hA (by decide) rfl rfl rfl (by decide +kernel) rfl (by decide +kernel) (Zr_sR (Zr_sR (Zr_sR (Zr_sR (Zr_sR (hZ.up (by decide)) (by decide)) (by decide)) (by decide)) (by decide)) (by decide)) ⟨rfl, ?_⟩)
  rw [sR_comm (a := 0) (b := 25) (by decide)]
  rw [sR_comm (a := 0) (b := 33) (by decide)]
  rw [sR_comm (a := 0) (b := 23) (by decide)]
  refine gy_putR2 hB hnm fX11_23 rfl dX11_init_34 rfl (by decide) (by decide) (fun _ => rfl) (fun _ => rfl) ?_
  refine gy_aload_n hB dX11_init_37 rfl ?_
  refine gy_new (T := TX4) (N := 2) hB hA (by decide) (tb_t 116 (by decide +kernel) (by decide +kernel)) (tb_t 117 (by decide +kernel) (by decide +kernel)) (tb_t 5 (by decide +kernel) (by decide +kernel)) rfl rfl (Zr_sR (Zr_sR (Zr_sR (Zr_sR (Zr_sR (Zr_sR (Zr_sR (Zr_sR (hZ.up (by decide)) (by decide)) (by decide)) (by decide)) (by decide)) (by decide)) (by decide)) (by decide)) (by decide)) (by show _ ≤ 110; decide) (by show _ ≤ 4094; decide) dX11_init_38 ?_
  refine gy_dup hB dX11_init_41 rfl ?_
  refine gy_aload_n hB dX11_init_42 rfl ?_
  refine gy_getR (a := 1) hB fX11_10 dX11_init_43 rfl (by decide) rfl ?_
  refine gy_callI (d := d + 5) (as := [_]) hB hI (tb_t 118 (by decide +kernel) (by decide +kernel)) kX4_init ⟨by show d + 5 + 1 ≤ d + 8; omega, by show 40 * (d + 5 + 1) ≤ 40 * (d + 8); omega, (by show _ ≤ 110; decide), (by show _ ≤ 4094; decide)⟩ dX11_init_46 rfl rfl (Nat.le_of_ble_eq_true rfl) (cy_X4_init hA (by decide) rfl rfl rfl rfl rfl (Zr_sR (Zr_sR (Zr_sR (Zr_sR (Zr_sR (Zr_sR (Zr_sR (Zr_sR (hZ.up (by decide)) (by decide)) (by decide)) (by decide)) (by decide)) (by decide)) (by decide)) (by decide)) (by decide)) ⟨rfl, ?_⟩)
  rw [sR_comm (a := 0) (b := 44) (by decide)]
  rw [sR_comm (a := 0) (b := 43) (by decide)]
  refine gy_putR2 hB hnm fX11_31 rfl dX11_init_49 rfl (by decide) (by decide) (fun _ => rfl) (fun _ => rfl) ?_
  refine gy_aload_n hB dX11_init_52 rfl ?_
  refine gy_new (T := TX2) (N := 4) hB hA (by decide) (tb_t 152 (by decide +kernel) (by decide +kernel)) (tb_t 153 (by decide +kernel) (by decide +kernel)) (tb_t 7 (by decide +kernel) (by decide +kernel)) rfl rfl (Zr_sR (Zr_sR (Zr_sR (Zr_sR (Zr_sR (Zr_sR (Zr_sR (Zr_sR (Zr_sR (Zr_sR (hZ.up (by decide)) (by decide)) (by decide)) (by decide)) (by decide)) (by decide)) (by decide)) (by decide)) (by decide)) (by decide)) (by decide)) (by show _ ≤ 110; decide) (by show _ ≤ 4094; decide) dX11_init_53 ?_
  refine gy_dup hB dX11_init_56 rfl ?_
  refine gy_aload_n hB dX11_init_57 rfl ?_
  refine gy_getR (a := 3) hB fX11_19 dX11_init_58 rfl (by decide) rfl ?_
  refine gy_callI (d := d + 5) (as := [_]) hB hI (tb_t 154 (by decide +kernel) (by decide +kernel)) kX2_init ⟨by show d + 5 + 1 ≤ d + 8; omega, by show 40 * (d + 5 + 1) ≤ 40 * (d + 8); omega, (by show _ ≤ 110; decide), (by show _ ≤ 4094; decide)⟩ dX11_init_61 rfl rfl (Nat.le_of_ble_eq_true rfl) (cy_X2_init hA (Zr_sR (Zr_sR (Zr_sR (Zr_sR (Zr_sR (Zr_sR (Zr_sR (Zr_sR (Zr_sR (Zr_sR (hZ.up (by decide)) (by decide)) (by decide)) (by decide)) (by decide)) (by decide)) (by decide)) (by decide)) (by decide)) (by decide)) (by decide)) ⟨rfl, ?_⟩)
  simp only [sI_sR]
  rw [sR_comm (a := 0) (b := 48) (by decide)]
  rw [sR_comm (a := 0) (b := 50) (by decide)]
  rw [sR_comm (a := 0) (b := 54) (by decide)]
  rw [sR_comm (a := 0) (b := 58) (by decide)]
  rw [sR_comm (a := 0) (b := 62) (by decide)]
  rw [sR_comm (a := 0) (b := 49) (by decide)]
  refine gy_putR2 hB hnm fX11_40 rfl dX11_init_64 rfl (by decide) (by decide) (fun _ => rfl) (fun _ => rfl) ?_
  refine gy_aload_n hB dX11_init_67 rfl ?_
  refine gy_iconst (v := iI 4) hB dX11_init_68 (by decide) ?_
  refine gy_anew (t := 1) hB hA (by decide) (tb_t 177 (by decide +kernel) (by decide +kernel)) hI.2.2.1 rfl rfl (Zr_sR (Zr_sR (Zr_sR (Zr_sR (Zr_sR (Zr_sR (Zr_sR (Zr_sR (Zr_sR (Zr_sR (Zr_sR (Zr_sR (Zr_sR (Zr_sR (Zr_sR (Zr_sR (Zr_sI (hZ.up (by decide)) (by decide)) (by decide)) (by decide)) (by decide)) (by decide)) (by decide)) (by decide)) (by decide)) (by decide)) (by decide)) (by decide)) (by decide)) (by decide)) (by decide)) (by decide)) (by decide)) (by decide)) (by decide) (by decide) (by decide) (by show _ ≤ 110; decide) (by show _ ≤ 4094; decide) dX11_init_69 ?_
  refine gy_idA (k := 66) (q := 66) (Zr_sR (Zr_sR (Zr_sR (Zr_sR (Zr_sR (Zr_sR (Zr_sR (Zr_sR (Zr_sR (Zr_sR (Zr_sR (Zr_sR (Zr_sR (Zr_sR (Zr_sR (Zr_sR (Zr_sI (hZ.up (by decide)) (by decide)) (by decide)) (by decide)) (by decide)) (by decide)) (by decide)) (by decide)) (by decide)) (by decide)) (by decide)) (by decide)) (by decide)) (by decide)) (by decide)) (by decide)) (by decide)) (by decide)) (Nat.le_refl _) ?_
  rw [sR_comm (a := 0) (b := 66) (by decide)]
  refine gy_putR2 hB hnm fX11_46 rfl dX11_init_72 rfl (by decide) (by decide) (fun _ => rfl) (fun _ => rfl) ?_
  refine gy_iconst (v := iI 0) hB dX11_init_75 (by decide) ?_
  refine gy_istore_n hB dX11_init_76 (by decide) rfl ?_
  refine gy_iload_n hB dX11_init_77 rfl ?_
  refine gy_iconst (v := iI 4) hB dX11_init_78 (by decide) ?_
  refine gy_icmp_ge (tgt := 101) hB dX11_init_79 (by decide) (fun h => absurd h (by decide)) (fun _ => ?_)
  refine gy_aload_n hB dX11_init_82 rfl ?_
  refine gy_getR (a := 66) hB fX11_46 dX11_init_83 rfl (by decide) rfl ?_
  refine gy_iload_n hB dX11_init_86 rfl ?_
  refine gy_new (T := TX7) (N := 4) hB hA (by decide) (tb_t 177 (by decide +kernel) (by decide +kernel)) (tb_t 179 (by decide +kernel) (by decide +kernel)) (tb_t 8 (by decide +kernel) (by decide +kernel)) rfl rfl (Zr_sR (Zr_sR (Zr_sR (Zr_sR (Zr_sR (Zr_sR (Zr_sR (Zr_sR (Zr_sR (Zr_sR (Zr_sR (Zr_sR (Zr_sR (Zr_sR (Zr_sR (Zr_sR (Zr_sR (Zr_sI (hZ.up (by decide)) (by decide)) (by decide)) (by decide)) (by decide)) (by decide)) (by decide)) (by decide)) (by decide)) (by decide)) (by decide)) (by decide)) (by decide)) (by decide)) (by decide)) (by decide)) (by decide)) (by decide)) (by decide)) (by show _ ≤ 110; decide) (by show _ ≤ 4094; decide) dX11_init_87 ?_
  refine gy_dup hB dX11_init_90 rfl ?_
  refine gy_callN (d := d + 2) (as := []) hB hI (List.mem_of_getElem? (i := 4) rfl) kX7_init ⟨by show d + 2 + 1 ≤ d + 8; omega, by show 40 * (d + 2 + 1) ≤ 40 * (d + 8); omega, (by show _ ≤ 110; decide), (by show _ ≤ 4094; decide)⟩ dX11_init_91 rfl rfl (Nat.le_of_ble_eq_true rfl) (cy_X7_init hA (by decide) rfl rfl rfl rfl (Zr_sR (Zr_sR (Zr_sR (Zr_sR (Zr_sR (Zr_sR (Zr_sR (Zr_sR (Zr_sR (Zr_sR (Zr_sR (Zr_sR (Zr_sR (Zr_sR (Zr_sR (Zr_sR (Zr_sR (Zr_sI (hZ.up (by decide)) (by decide)) (by decide)) (by decide)) (by decide)) (by decide)) (by decide)) (by decide)) (by decide)) (by decide)) (by decide)) (by decide)) (by decide)) (by decide)) (by decide)) (by decide)) (by decide)) (by decide)) (by decide)) ⟨rfl, ?_⟩)
  rw [sR_comm (a := 66) (b := 0) (by decide)]
  rw [sR_comm (a := 66) (b := 67) (by decide)]
  refine gy_aast2 (t := 1) (T := TX7) (M := 4) hB (by decide) rfl rfl (by decide) rfl (by decide) rfl (by unfold vp_in; decide) dX11_init_94 ?_
  rw [show (iI 0).toNatClampNeg = 0 by decide]
  refine gy_iinc hB dX11_init_95 rfl (by decide) rfl ?_
  refine gy_goto (tgt := 77) hB dX11_init_98 (by decide) ?_
  refine gy_iload_n hB dX11_init_77 rfl ?_
  refine gy_iconst (v := iI 4) hB dX11_init_78 (by decide) ?_
  refine gy_icmp_ge (tgt := 101) hB dX11_init_79 (by decide) (fun h => absurd h (by decide)) (fun _ => ?_)
  refine gy_aload_n hB dX11_init_82 rfl ?_
  refine gy_getR (a := 66) hB fX11_46 dX11_init_83 rfl (by decide) rfl ?_
  refine gy_iload_n hB dX11_init_86 rfl ?_
  refine gy_new (T := TX7) (N := 4) hB hA (by decide) (tb_t 177 (by decide +kernel) (by decide +kernel)) (tb_t 179 (by decide +kernel) (by decide +kernel)) (tb_t 8 (by decide +kernel) (by decide +kernel)) rfl rfl (Zr_sR (Zr_sR (Zr_sR (Zr_sR (Zr_sR (Zr_sR (Zr_sR (Zr_sR (Zr_sR (Zr_sR (Zr_sR (Zr_sR (Zr_sR (Zr_sR (Zr_sR (Zr_sR (Zr_sR (Zr_sR (Zr_sI (hZ.up (by decide)) (by decide)) (by decide)) (by decide)) (by decide)) (by decide)) (by decide)) (by decide)) (by decide)) (by decide)) (by decide)) (by decide)) (by decide)) (by decide)) (by decide)) (by decide)) (by decide)) (by decide)) (by decide)) (by decide)) (by show _ ≤ 110; decide) (by show _ ≤ 4094; decide) dX11_init_87 ?_
  refine gy_dup hB dX11_init_90 rfl ?_
  refine gy_callN (d := d + 2) (as := []) hB hI (List.mem_of_getElem? (i := 4) rfl) kX7_init ⟨by show d + 2 + 1 ≤ d + 8; omega, by show 40 * (d + 2 + 1) ≤ 40 * (d + 8); omega, (by show _ ≤ 110; decide), (by show _ ≤ 4094; decide)⟩ dX11_init_91 rfl rfl (Nat.le_of_ble_eq_true rfl) (cy_X7_init hA (by decide) rfl rfl rfl rfl (Zr_sR (Zr_sR (Zr_sR (Zr_sR (Zr_sR (Zr_sR (Zr_sR (Zr_sR (Zr_sR (Zr_sR (Zr_sR (Zr_sR (Zr_sR (Zr_sR (Zr_sR (Zr_sR (Zr_sR (Zr_sR (Zr_sI (hZ.up (by decide)) (by decide)) (by decide)) (by decide)) (by decide)) (by decide)) (by decide)) (by decide)) (by decide)) (by decide)) (by decide)) (by decide)) (by decide)) (by decide)) (by decide)) (by decide)) (by decide)) (by decide)) (by decide)) (by decide)) ⟨rfl, ?_⟩)
  rw [sR_comm (a := 66) (b := 71) (by decide)]
  refine gy_aast2 (t := 1) (T := TX7) (M := 4) hB (by decide) rfl rfl (by decide) rfl (by decide) rfl (by unfold vp_in; decide) dX11_init_94 ?_
  rw [show ((iI 0 + Int32.ofInt 1)).toNatClampNeg = 1 by decide]
  refine gy_iinc hB dX11_init_95 rfl (by decide) rfl ?_
  refine gy_goto (tgt := 77) hB dX11_init_98 (by decide) ?_
  refine gy_iload_n hB dX11_init_77 rfl ?_
  refine gy_iconst (v := iI 4) hB dX11_init_78 (by decide) ?_
  refine gy_icmp_ge (tgt := 101) hB dX11_init_79 (by decide) (fun h => absurd h (by decide)) (fun _ => ?_)
  refine gy_aload_n hB dX11_init_82 rfl ?_
  refine gy_getR (a := 66) hB fX11_46 dX11_init_83 rfl (by decide) rfl ?_
  refine gy_iload_n hB dX11_init_86 rfl ?_
  refine gy_new (T := TX7) (N := 4) hB hA (by decide) (tb_t 177 (by decide +kernel) (by decide +kernel)) (tb_t 179 (by decide +kernel) (by decide +kernel)) (tb_t 8 (by decide +kernel) (by decide +kernel)) rfl rfl (Zr_sR (Zr_sR (Zr_sR (Zr_sR (Zr_sR (Zr_sR (Zr_sR (Zr_sR (Zr_sR (Zr_sR (Zr_sR (Zr_sR (Zr_sR (Zr_sR (Zr_sR (Zr_sR (Zr_sR (Zr_sR (Zr_sR (Zr_sI (hZ.up (by decide)) (by decide)) (by decide)) (by decide)) (by decide)) (by decide)) (by decide)) (by decide)) (by decide)) (by decide)) (by decide)) (by decide)) (by decide)) (by decide)) (by decide)) (by decide)) (by decide)) (by decide)) (by decide)) (by decide)) (by decide)) (by show _ ≤ 110; decide) (by show _ ≤ 4094; decide) dX11_init_87 ?_
  refine gy_dup hB dX11_init_90 rfl ?_
  refine gy_callN (d := d + 2) (as := []) hB hI (List.mem_of_getElem? (i := 4) rfl) kX7_init ⟨by show d + 2 + 1 ≤ d + 8; omega, by show 40 * (d + 2 + 1) ≤ 40 * (d + 8); omega, (by show _ ≤ 110; decide), (by show _ ≤ 4094; decide)⟩ dX11_init_91 rfl rfl (Nat.le_of_ble_eq_true rfl) (cy_X7_init hA (by decide) rfl rfl rfl rfl (Zr_sR (Zr_sR (Zr_sR (Zr_sR (Zr_sR (Zr_sR (Zr_sR (Zr_sR (Zr_sR (Zr_sR (Zr_sR (Zr_sR (Zr_sR (Zr_sR (Zr_sR (Zr_sR (Zr_sR (Zr_sR (Zr_sR (Zr_sI (hZ.up (by decide)) (by decide)) (by decide)) (by decide)) (by decide)) (by decide)) (by decide)) (by decide)) (by decide)) (by decide)) (by decide)) (by decide)) (by decide)) (by decide)) (by decide)) (by decide)) (by decide)) (by decide)) (by decide)) (by decide)) (by decide)) ⟨rfl, ?_⟩)
  rw [sR_comm (a := 66) (b := 75) (by decide)]
  refine gy_aast2 (t := 1) (T := TX7) (M := 4) hB (by decide) rfl rfl (by decide) rfl (by decide) rfl (by unfold vp_in; decide) dX11_init_94 ?_
  rw [show (((iI 0 + Int32.ofInt 1) + Int32.ofInt 1)).toNatClampNeg = 2 by decide]
  refine gy_iinc hB dX11_init_95 rfl (by decide) rfl ?_
  refine gy_goto (tgt := 77) hB dX11_init_98 (by decide) ?_
  refine gy_iload_n hB dX11_init_77 rfl ?_
  refine gy_iconst (v := iI 4) hB dX11_init_78 (by decide) ?_
  refine gy_icmp_ge (tgt := 101) hB dX11_init_79 (by decide) (fun h => absurd h (by decide)) (fun _ => ?_)
  refine gy_aload_n hB dX11_init_82 rfl ?_
  refine gy_getR (a := 66) hB fX11_46 dX11_init_83 rfl (by decide) rfl ?_
  refine gy_iload_n hB dX11_init_86 rfl ?_
  refine gy_new (T := TX7) (N := 4) hB hA (by decide) (tb_t 177 (by decide +kernel) (by decide +kernel)) (tb_t 179 (by decide +kernel) (by decide +kernel)) (tb_t 8 (by decide +kernel) (by decide +kernel)) rfl rfl (Zr_sR (Zr_sR (Zr_sR (Zr_sR (Zr_sR (Zr_sR (Zr_sR (Zr_sR (Zr_sR (Zr_sR (Zr_sR (Zr_sR (Zr_sR (Zr_sR (Zr_sR (Zr_sR (Zr_sR (Zr_sR (Zr_sR (Zr_sR (Zr_sI (hZ.up (by decide)) (by decide)) (by decide)) (by decide)) (by decide)) (by decide)) (by decide)) (by decide)) (by decide)) (by decide)) (by decide)) (by decide)) (by decide)) (by decide)) (by decide)) (by decide)) (by decide)) (by decide)) (by decide)) (by decide)) (by decide)) (by decide)) (by show _ ≤ 110; decide) (by show _ ≤ 4094; decide) dX11_init_87 ?_
  refine gy_dup hB dX11_init_90 rfl ?_
  refine gy_callN (d := d + 2) (as := []) hB hI (List.mem_of_getElem? (i := 4) rfl) kX7_init ⟨by show d + 2 + 1 ≤ d + 8; omega, by show 40 * (d + 2 + 1) ≤ 40 * (d + 8); omega, (by show _ ≤ 110; decide), (by show _ ≤ 4094; decide)⟩ dX11_init_91 rfl rfl (Nat.le_of_ble_eq_true rfl) (cy_X7_init hA (by decide) rfl rfl rfl rfl (Zr_sR (Zr_sR (Zr_sR (Zr_sR (Zr_sR (Zr_sR (Zr_sR (Zr_sR (Zr_sR (Zr_sR (Zr_sR (Zr_sR (Zr_sR (Zr_sR (Zr_sR (Zr_sR (Zr_sR (Zr_sR (Zr_sR (Zr_sR (Zr_sI (hZ.up (by decide)) (by decide)) (by decide)) (by decide)) (by decide)) (by decide)) (by decide)) (by decide)) (by decide)) (by decide)) (by decide)) (by decide)) (by decide)) (by decide)) (by decide)) (by decide)) (by decide)) (by decide)) (by decide)) (by decide)) (by decide)) (by decide)) ⟨rfl, ?_⟩)
  rw [sR_comm (a := 66) (b := 79) (by decide)]
  refine gy_aast2 (t := 1) (T := TX7) (M := 4) hB (by decide) rfl rfl (by decide) rfl (by decide) rfl (by unfold vp_in; decide) dX11_init_94 ?_
  rw [show ((((iI 0 + Int32.ofInt 1) + Int32.ofInt 1) + Int32.ofInt 1)).toNatClampNeg = 3 by decide]
  refine gy_iinc hB dX11_init_95 rfl (by decide) rfl ?_
  refine gy_goto (tgt := 77) hB dX11_init_98 (by decide) ?_
  refine gy_iload_n hB dX11_init_77 rfl ?_
  refine gy_iconst (v := iI 4) hB dX11_init_78 (by decide) ?_
  refine gy_icmp_ge (tgt := 101) hB dX11_init_79 (by decide) (fun _ => ?_) (fun h => absurd (by decide) h)
  refine gy_aload_n hB dX11_init_101 rfl ?_
  refine gy_new (T := TX7) (N := 4) hB hA (by decide) (tb_t 177 (by decide +kernel) (by decide +kernel)) (tb_t 179 (by decide +kernel) (by decide +kernel)) (tb_t 8 (by decide +kernel) (by decide +kernel)) rfl rfl (Zr_sR (Zr_sR (Zr_sR (Zr_sR (Zr_sR (Zr_sR (Zr_sR (Zr_sR (Zr_sR (Zr_sR (Zr_sR (Zr_sR (Zr_sR (Zr_sR (Zr_sR (Zr_sR (Zr_sR (Zr_sR (Zr_sR (Zr_sR (Zr_sR (Zr_sI (hZ.up (by decide)) (by decide)) (by decide)) (by decide)) (by decide)) (by decide)) (by decide)) (by decide)) (by decide)) (by decide)) (by decide)) (by decide)) (by decide)) (by decide)) (by decide)) (by decide)) (by decide)) (by decide)) (by decide)) (by decide)) (by decide)) (by decide)) (by decide)) (by show _ ≤ 110; decide) (by show _ ≤ 4094; decide) dX11_init_102 ?_
  refine gy_dup hB dX11_init_105 rfl ?_
  refine gy_callN (d := d + 2) (as := []) hB hI (List.mem_of_getElem? (i := 4) rfl) kX7_init ⟨by show d + 2 + 1 ≤ d + 8; omega, by show 40 * (d + 2 + 1) ≤ 40 * (d + 8); omega, (by show _ ≤ 110; decide), (by show _ ≤ 4094; decide)⟩ dX11_init_106 rfl rfl (Nat.le_of_ble_eq_true rfl) (cy_X7_init hA (by decide) rfl rfl rfl rfl (Zr_sR (Zr_sR (Zr_sR (Zr_sR (Zr_sR (Zr_sR (Zr_sR (Zr_sR (Zr_sR (Zr_sR (Zr_sR (Zr_sR (Zr_sR (Zr_sR (Zr_sR (Zr_sR (Zr_sR (Zr_sR (Zr_sR (Zr_sR (Zr_sR (Zr_sI (hZ.up (by decide)) (by decide)) (by decide)) (by decide)) (by decide)) (by decide)) (by decide)) (by decide)) (by decide)) (by decide)) (by decide)) (by decide)) (by decide)) (by decide)) (by decide)) (by decide)) (by decide)) (by decide)) (by decide)) (by decide)) (by decide)) (by decide)) (by decide)) ⟨rfl, ?_⟩)
  rw [sR_comm (a := 0) (b := 67) (by decide)]
  rw [sR_comm (a := 0) (b := 71) (by decide)]
  rw [sR_comm (a := 0) (b := 75) (by decide)]
  rw [sR_comm (a := 0) (b := 79) (by decide)]
  rw [sR_comm (a := 0) (b := 66) (by decide)]
  rw [sR_comm (a := 0) (b := 83) (by decide)]
  refine gy_putR2 hB hnm fX11_51 rfl dX11_init_109 rfl (by decide) (by decide) (fun _ => rfl) (fun _ => rfl) ?_
  refine gy_aload_n hB dX11_init_112 rfl ?_
  refine gy_new (T := TX10) (N := 6) hB hA (by decide) (tb_t 205 (by decide +kernel) (by decide +kernel)) (tb_t 206 (by decide +kernel) (by decide +kernel)) (tb_t 9 (by decide +kernel) (by decide +kernel)) rfl rfl (Zr_sR (Zr_sR (Zr_sR (Zr_sR (Zr_sR (Zr_sR (Zr_sR (Zr_sR (Zr_sR (Zr_sR (Zr_sR (Zr_sR (Zr_sR (Zr_sR (Zr_sR (Zr_sR (Zr_sR (Zr_sR (Zr_sR (Zr_sR (Zr_sR (Zr_sR (Zr_sI (hZ.up (by decide)) (by decide)) (by decide)) (by decide)) (by decide)) (by decide)) (by decide)) (by decide)) (by decide)) (by decide)) (by decide)) (by decide)) (by decide)) (by decide)) (by decide)) (by decide)) (by decide)) (by decide)) (by decide)) (by decide)) (by decide)) (by decide)) (by decide)) (by decide)) (by show _ ≤ 110; decide) (by show _ ≤ 4094; decide) dX11_init_113 ?_
  refine gy_dup hB dX11_init_116 rfl ?_
  refine gy_callN (d := d + 2) (as := []) hB hI (List.mem_of_getElem? (i := 5) rfl) kX10_init ⟨by show d + 2 + 1 ≤ d + 8; omega, by show 40 * (d + 2 + 1) ≤ 40 * (d + 8); omega, (by show _ ≤ 110; decide), (by show _ ≤ 4094; decide)⟩ dX11_init_117 rfl rfl (Nat.le_of_ble_eq_true rfl) (cy_X10_init hA (by decide) rfl rfl rfl rfl (Zr_sR (Zr_sR (Zr_sR (Zr_sR (Zr_sR (Zr_sR (Zr_sR (Zr_sR (Zr_sR (Zr_sR (Zr_sR (Zr_sR (Zr_sR (Zr_sR (Zr_sR (Zr_sR (Zr_sR (Zr_sR (Zr_sR (Zr_sR (Zr_sR (Zr_sR (Zr_sI (hZ.up (by decide)) (by decide)) (by decide)) (by decide)) (by decide)) (by decide)) (by decide)) (by decide)) (by decide)) (by decide)) (by decide)) (by decide)) (by decide)) (by decide)) (by decide)) (by decide)) (by decide)) (by decide)) (by decide)) (by decide)) (by decide)) (by decide)) (by decide)) (by decide)) ⟨rfl, ?_⟩)
  rw [sR_comm (a := 0) (b := 87) (by decide)]
  refine gy_putR2 hB hnm fX11_58 rfl dX11_init_120 rfl (by decide) (by decide) (fun _ => rfl) (fun _ => rfl) ?_
  refine gy_aload_n hB dX11_init_123 rfl ?_
  refine gy_new (T := TX1) (N := 2) hB hA (by decide) (tb_t 247 (by decide +kernel) (by decide +kernel)) (tb_t 248 (by decide +kernel) (by decide +kernel)) (tb_t 10 (by decide +kernel) (by decide +kernel)) rfl rfl (Zr_sR (Zr_sR (Zr_sR (Zr_sR (Zr_sR (Zr_sR (Zr_sR (Zr_sR (Zr_sR (Zr_sR (Zr_sR (Zr_sR (Zr_sR (Zr_sR (Zr_sR (Zr_sR (Zr_sR (Zr_sR (Zr_sR (Zr_sR (Zr_sR (Zr_sR (Zr_sR (Zr_sI (hZ.up (by decide)) (by decide)) (by decide)) (by decide)) (by decide)) (by decide)) (by decide)) (by decide)) (by decide)) (by decide)) (by decide)) (by decide)) (by decide)) (by decide)) (by decide)) (by decide)) (by decide)) (by decide)) (by decide)) (by decide)) (by decide)) (by decide)) (by decide)) (by decide)) (by decide)) (by show _ ≤ 110; decide) (by show _ ≤ 4094; decide) dX11_init_124 ?_
  refine gy_dup hB dX11_init_127 rfl ?_
  refine gy_callN (d := d + 2) (as := []) hB hI (List.mem_of_getElem? (i := 6) rfl) kX1_init ⟨by show d + 2 + 1 ≤ d + 8; omega, by show 40 * (d + 2 + 1) ≤ 40 * (d + 8); omega, (by show _ ≤ 110; decide), (by show _ ≤ 4094; decide)⟩ dX11_init_128 rfl rfl (Nat.le_of_ble_eq_true rfl) (cy_X1_init hA (by decide) rfl rfl (Zr_sR (Zr_sR (Zr_sR (Zr_sR (Zr_sR (Zr_sR (Zr_sR (Zr_sR (Zr_sR (Zr_sR (Zr_sR (Zr_sR (Zr_sR (Zr_sR (Zr_sR (Zr_sR (Zr_sR (Zr_sR (Zr_sR (Zr_sR (Zr_sR (Zr_sR (Zr_sR (Zr_sI (hZ.up (by decide)) (by decide)) (by decide)) (by decide)) (by decide)) (by decide)) (by decide)) (by decide)) (by decide)) (by decide)) (by decide)) (by decide)) (by decide)) (by decide)) (by decide)) (by decide)) (by decide)) (by decide)) (by decide)) (by decide)) (by decide)) (by decide)) (by decide)) (by decide)) (by decide)) ⟨rfl, ?_⟩)
  rw [sR_comm (a := 0) (b := 91) (by decide)]
  refine gy_putR2 hB hnm fX11_65 rfl dX11_init_131 rfl (by decide) (by decide) (fun _ => rfl) (fun _ => rfl) ?_
  refine gy_aload_n hB dX11_init_134 rfl ?_
  refine gy_new (T := TX0) (N := 3) hB hA (by decide) (tb_t 262 (by decide +kernel) (by decide +kernel)) (tb_t 263 (by decide +kernel) (by decide +kernel)) (tb_t 11 (by decide +kernel) (by decide +kernel)) rfl rfl (Zr_sR (Zr_sR (Zr_sR (Zr_sR (Zr_sR (Zr_sR (Zr_sR (Zr_sR (Zr_sR (Zr_sR (Zr_sR (Zr_sR (Zr_sR (Zr_sR (Zr_sR (Zr_sR (Zr_sR (Zr_sR (Zr_sR (Zr_sR (Zr_sR (Zr_sR (Zr_sR (Zr_sR (Zr_sI (hZ.up (by decide)) (by decide)) (by decide)) (by decide)) (by decide)) (by decide)) (by decide)) (by decide)) (by decide)) (by decide)) (by decide)) (by decide)) (by decide)) (by decide)) (by decide)) (by decide)) (by decide)) (by decide)) (by decide)) (by decide)) (by decide)) (by decide)) (by decide)) (by decide)) (by decide)) (by decide)) (by show _ ≤ 110; decide) (by show _ ≤ 4094; decide) dX11_init_135 ?_
  refine gy_dup hB dX11_init_138 rfl ?_
  refine gy_callN (d := d + 2) (as := []) hB hI (List.mem_of_getElem? (i := 7) rfl) kX0_init ⟨by show d + 2 + 1 ≤ d + 8; omega, by show 40 * (d + 2 + 1) ≤ 40 * (d + 8); omega, (by show _ ≤ 110; decide), (by show _ ≤ 4094; decide)⟩ dX11_init_139 rfl rfl (Nat.le_of_ble_eq_true rfl) (cy_X0_init hA (by decide) rfl rfl (Zr_sR (Zr_sR (Zr_sR (Zr_sR (Zr_sR (Zr_sR (Zr_sR (Zr_sR (Zr_sR (Zr_sR (Zr_sR (Zr_sR (Zr_sR (Zr_sR (Zr_sR (Zr_sR (Zr_sR (Zr_sR (Zr_sR (Zr_sR (Zr_sR (Zr_sR (Zr_sR (Zr_sR (Zr_sI (hZ.up (by decide)) (by decide)) (by decide)) (by decide)) (by decide)) (by decide)) (by decide)) (by decide)) (by decide)) (by decide)) (by decide)) (by decide)) (by decide)) (by decide)) (by decide)) (by decide)) (by decide)) (by decide)) (by decide)) (by decide)) (by decide)) (by decide)) (by decide)) (by decide)) (by decide)) (by decide)) ⟨rfl, ?_⟩)
  rw [sR_comm (a := 0) (b := 93) (by decide)]
  refine gy_putR2 hB hnm fX11_72 rfl dX11_init_142 rfl (by decide) (by decide) (fun _ => rfl) (fun _ => rfl) ?_
  refine gy_aload_n hB dX11_init_145 rfl ?_
  refine gy_new (T := TX10) (N := 6) hB hA (by decide) (tb_t 205 (by decide +kernel) (by decide +kernel)) (tb_t 206 (by decide +kernel) (by decide +kernel)) (tb_t 9 (by decide +kernel) (by decide +kernel)) rfl rfl (Zr_sR (Zr_sR (Zr_sR (Zr_sR (Zr_sR (Zr_sR (Zr_sR (Zr_sR (Zr_sR (Zr_sR (Zr_sR (Zr_sR (Zr_sR (Zr_sR (Zr_sR (Zr_sR (Zr_sR (Zr_sR (Zr_sR (Zr_sR (Zr_sR (Zr_sR (Zr_sR (Zr_sR (Zr_sR (Zr_sI (hZ.up (by decide)) (by decide)) (by decide)) (by decide)) (by decide)) (by decide)) (by decide)) (by decide)) (by decide)) (by decide)) (by decide)) (by decide)) (by decide)) (by decide)) (by decide)) (by decide)) (by decide)) (by decide)) (by decide)) (by decide)) (by decide)) (by decide)) (by decide)) (by decide)) (by decide)) (by decide)) (by decide)) (by show _ ≤ 110; decide) (by show _ ≤ 4094; decide) dX11_init_146 ?_
  refine gy_dup hB dX11_init_149 rfl ?_
  refine gy_callN (d := d + 2) (as := []) hB hI (List.mem_of_getElem? (i := 5) rfl) kX10_init ⟨by show d + 2 + 1 ≤ d + 8; omega, by show 40 * (d + 2 + 1) ≤ 40 * (d + 8); omega, (by show _ ≤ 110; decide), (by show _ ≤ 4094; decide)⟩ dX11_init_150 rfl rfl (Nat.le_of_ble_eq_true rfl) (cy_X10_init hA (by decide) rfl rfl rfl rfl (Zr_sR (Zr_sR (Zr_sR (Zr_sR (Zr_sR (Zr_sR (Zr_sR (Zr_sR (Zr_sR (Zr_sR (Zr_sR (Zr_sR (Zr_sR (Zr_sR (Zr_sR (Zr_sR (Zr_sR (Zr_sR (Zr_sR (Zr_sR (Zr_sR (Zr_sR (Zr_sR (Zr_sR (Zr_sR (Zr_sI (hZ.up (by decide)) (by decide)) (by decide)) (by decide)) (by decide)) (by decide)) (by decide)) (by decide)) (by decide)) (by decide)) (by decide)) (by decide)) (by decide)) (by decide)) (by decide)) (by decide)) (by decide)) (by decide)) (by decide)) (by decide)) (by decide)) (by decide)) (by decide)) (by decide)) (by decide)) (by decide)) (by decide)) ⟨rfl, ?_⟩)
  rw [sR_comm (a := 0) (b := 95) (by decide)]
  refine gy_putR2 hB hnm fX11_76 rfl dX11_init_153 rfl (by decide) (by decide) (fun _ => rfl) (fun _ => rfl) ?_
  refine gy_aload_n hB dX11_init_156 rfl ?_
  refine gy_new (T := TX1) (N := 2) hB hA (by decide) (tb_t 247 (by decide +kernel) (by decide +kernel)) (tb_t 248 (by decide +kernel) (by decide +kernel)) (tb_t 10 (by decide +kernel) (by decide +kernel)) rfl rfl (Zr_sR (Zr_sR (Zr_sR (Zr_sR (Zr_sR (Zr_sR (Zr_sR (Zr_sR (Zr_sR (Zr_sR (Zr_sR (Zr_sR (Zr_sR (Zr_sR (Zr_sR (Zr_sR (Zr_sR (Zr_sR (Zr_sR (Zr_sR (Zr_sR (Zr_sR (Zr_sR (Zr_sR (Zr_sR (Zr_sR (Zr_sI (hZ.up (by decide)) (by decide)) (by decide)) (by decide)) (by decide)) (by decide)) (by decide)) (by decide)) (by decide)) (by decide)) (by decide)) (by decide)) (by decide)) (by decide)) (by decide)) (by decide)) (by decide)) (by decide)) (by decide)) (by decide)) (by decide)) (by decide)) (by decide)) (by decide)) (by decide)) (by decide)) (by decide)) (by decide)) (by show _ ≤ 110; decide) (by show _ ≤ 4094; decide) dX11_init_157 ?_
  refine gy_dup hB dX11_init_160 rfl ?_
  refine gy_callN (d := d + 2) (as := []) hB hI (List.mem_of_getElem? (i := 6) rfl) kX1_init ⟨by show d + 2 + 1 ≤ d + 8; omega, by show 40 * (d + 2 + 1) ≤ 40 * (d + 8); omega, (by show _ ≤ 110; decide), (by show _ ≤ 4094; decide)⟩ dX11_init_161 rfl rfl (Nat.le_of_ble_eq_true rfl) (cy_X1_init hA (by decide) rfl rfl (Zr_sR (Zr_sR (Zr_sR (Zr_sR (Zr_sR (Zr_sR (Zr_sR (Zr_sR (Zr_sR (Zr_sR (Zr_sR (Zr_sR (Zr_sR (Zr_sR (Zr_sR (Zr_sR (Zr_sR (Zr_sR (Zr_sR (Zr_sR (Zr_sR (Zr_sR (Zr_sR (Zr_sR (Zr_sR (Zr_sR (Zr_sI (hZ.up (by decide)) (by decide)) (by decide)) (by decide)) (by decide)) (by decide)) (by decide)) (by decide)) (by decide)) (by decide)) (by decide)) (by decide)) (by decide)) (by decide)) (by decide)) (by decide)) (by decide)) (by decide)) (by decide)) (by decide)) (by decide)) (by decide)) (by decide)) (by decide)) (by decide)) (by decide)) (by decide)) (by decide)) ⟨rfl, ?_⟩)
  rw [sR_comm (a := 0) (b := 99) (by decide)]
  refine gy_putR2 hB hnm fX11_79 rfl dX11_init_164 rfl (by decide) (by decide) (fun _ => rfl) (fun _ => rfl) ?_
  refine gy_aload_n hB dX11_init_167 rfl ?_
  refine gy_new (T := TX5) (N := 5) hB hA (by decide) (tb_t 279 (by decide +kernel) (by decide +kernel)) (tb_t 280 (by decide +kernel) (by decide +kernel)) (tb_t 12 (by decide +kernel) (by decide +kernel)) rfl rfl (Zr_sR (Zr_sR (Zr_sR (Zr_sR (Zr_sR (Zr_sR (Zr_sR (Zr_sR (Zr_sR (Zr_sR (Zr_sR (Zr_sR (Zr_sR (Zr_sR (Zr_sR (Zr_sR (Zr_sR (Zr_sR (Zr_sR (Zr_sR (Zr_sR (Zr_sR (Zr_sR (Zr_sR (Zr_sR (Zr_sR (Zr_sR (Zr_sI (hZ.up (by decide)) (by decide)) (by decide)) (by decide)) (by decide)) (by decide)) (by decide)) (by decide)) (by decide)) (by decide)) (by decide)) (by decide)) (by decide)) (by decide)) (by decide)) (by decide)) (by decide)) (by decide)) (by decide)) (by decide)) (by decide)) (by decide)) (by decide)) (by decide)) (by decide)) (by decide)) (by decide)) (by decide)) (by decide)) (by show _ ≤ 110; decide) (by show _ ≤ 4094; decide) dX11_init_168 ?_
  refine gy_dup hB dX11_init_171 rfl ?_
  refine gy_aload_n hB dX11_init_172 rfl ?_
  refine gy_getR (a := 3) hB fX11_19 dX11_init_173 rfl (by decide) rfl ?_
  refine gy_callI (d := d + 2) (as := [_]) hB hI (tb_t 281 (by decide +kernel) (by decide +kernel)) kX5_init ⟨by show d + 2 + 1 ≤ d + 8; omega, by show 40 * (d + 2 + 1) ≤ 40 * (d + 8); omega, (by show _ ≤ 110; decide), (by show _ ≤ 4094; decide)⟩ dX11_init_176 rfl rfl (Nat.le_of_ble_eq_true rfl) (cy_X5_init hA (by decide) rfl rfl rfl rfl (Zr_sR (Zr_sR (Zr_sR (Zr_sR (Zr_sR (Zr_sR (Zr_sR (Zr_sR (Zr_sR (Zr_sR (Zr_sR (Zr_sR (Zr_sR (Zr_sR (Zr_sR (Zr_sR (Zr_sR (Zr_sR (Zr_sR (Zr_sR (Zr_sR (Zr_sR (Zr_sR (Zr_sR (Zr_sR (Zr_sR (Zr_sR (Zr_sI (hZ.up (by decide)) (by decide)) (by decide)) (by decide)) (by decide)) (by decide)) (by decide)) (by decide)) (by decide)) (by decide)) (by decide)) (by decide)) (by decide)) (by decide)) (by decide)) (by decide)) (by decide)) (by decide)) (by decide)) (by decide)) (by decide)) (by decide)) (by decide)) (by decide)) (by decide)) (by decide)) (by decide)) (by decide)) (by decide)) ⟨rfl, ?_⟩)
  rw [sR_comm (a := 0) (b := 101) (by decide)]
  refine gy_putR2 hB hnm fX11_85 rfl dX11_init_179 rfl (by decide) (by decide) (fun _ => rfl) (fun _ => rfl) ?_
  refine gy_aload_n hB dX11_init_182 rfl ?_
  refine gy_new (T := TX6) (N := 5) hB hA (by decide) (tb_t 302 (by decide +kernel) (by decide +kernel)) (tb_t 303 (by decide +kernel) (by decide +kernel)) (tb_t 13 (by decide +kernel) (by decide +kernel)) rfl rfl (Zr_sR (Zr_sR (Zr_sR (Zr_sR (Zr_sR (Zr_sR (Zr_sR (Zr_sR (Zr_sR (Zr_sR (Zr_sR (Zr_sR (Zr_sR (Zr_sR (Zr_sR (Zr_sR (Zr_sR (Zr_sR (Zr_sR (Zr_sR (Zr_sR (Zr_sR (Zr_sR (Zr_sR (Zr_sR (Zr_sR (Zr_sR (Zr_sR (Zr_sI (hZ.up (by decide)) (by decide)) (by decide)) (by decide)) (by decide)) (by decide)) (by decide)) (by decide)) (by decide)) (by decide)) (by decide)) (by decide)) (by decide)) (by decide)) (by decide)) (by decide)) (by decide)) (by decide)) (by decide)) (by decide)) (by decide)) (by decide)) (by decide)) (by decide)) (by decide)) (by decide)) (by decide)) (by decide)) (by decide)) (by decide)) (by show _ ≤ 110; decide) (by show _ ≤ 4094; decide) dX11_init_183 ?_
  refine gy_dup hB dX11_init_186 rfl ?_
  refine gy_aload_n hB dX11_init_187 rfl ?_
  refine gy_getR (a := 3) hB fX11_19 dX11_init_188 rfl (by decide) rfl ?_
  refine gy_aload_n hB dX11_init_191 rfl ?_
  refine gy_getR (a := 48) hB fX11_40 dX11_init_192 rfl (by decide) rfl ?_
  refine gy_aload_n hB dX11_init_195 rfl ?_
  refine gy_getR (a := 87) hB fX11_58 dX11_init_196 rfl (by decide) rfl ?_
  refine gy_callI (d := d + 5) (as := [_, _, _]) hB hI (tb_t 304 (by decide +kernel) (by decide +kernel)) kX6_init ⟨by show d + 5 + 1 ≤ d + 8; omega, by show 40 * (d + 5 + 1) ≤ 40 * (d + 8); omega, (by show _ ≤ 110; decide), (by show _ ≤ 4094; decide)⟩ dX11_init_199 rfl rfl (Nat.le_of_ble_eq_true rfl) (cy_X6_init hA (by decide) rfl rfl rfl rfl rfl rfl (Zr_sR (Zr_sR (Zr_sR (Zr_sR (Zr_sR (Zr_sR (Zr_sR (Zr_sR (Zr_sR (Zr_sR (Zr_sR (Zr_sR (Zr_sR (Zr_sR (Zr_sR (Zr_sR (Zr_sR (Zr_sR (Zr_sR (Zr_sR (Zr_sR (Zr_sR (Zr_sR (Zr_sR (Zr_sR (Zr_sR (Zr_sR (Zr_sR (Zr_sI (hZ.up (by decide)) (by decide)) (by decide)) (by decide)) (by decide)) (by decide)) (by decide)) (by decide)) (by decide)) (by decide)) (by decide)) (by decide)) (by decide)) (by decide)) (by decide)) (by decide)) (by decide)) (by decide)) (by decide)) (by decide)) (by decide)) (by decide)) (by decide)) (by decide)) (by decide)) (by decide)) (by decide)) (by decide)) (by decide)) (by decide)) ⟨rfl, ?_⟩)
  rw [sR_comm (a := 0) (b := 106) (by decide)]
  rw [sR_comm (a := 0) (b := 105) (by decide)]
  refine gy_putR2 hB hnm fX11_94 rfl dX11_init_202 rfl (by decide) (by decide) (fun _ => rfl) (fun _ => rfl) ?_
  refine gy_aload_n hB dX11_init_205 rfl ?_
  refine gy_bipush (v := iI 20) hB dX11_init_206 (by decide) ?_
  refine gy_putI hB hnm fX11_98 rfl dX11_init_208 rfl (by decide) (by decide) rfl rfl ?_
  simp only [sI_sR]
  exact gy_vret (n1 := 0) (mc := 0) (ms := 0) hB hlk hrt dX11_init_211 hK
