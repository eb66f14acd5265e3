/-! bytes of a word -/
def bw (w : Int32) (s : Nat) : Nat := w.toBitVec.toNat / 2 ^ s % 256
def sb (b : Nat) : Int32 := iI (if b < 128 then (b : Int) else (b : Int) - 256)
theorem bw_lt (w : Int32) (s : Nat) : bw w s < 256 := Nat.mod_lt _ (by decide)
def sOK (s : Int) : Prop := s = 0 ∨ s = 8 ∨ s = 16 ∨ s = 24
theorem bw_u {w : Int32} {s : Int} (hs : sOK s) : (w.toUInt32 >>> ((iI s).toUInt32 &&& Int32.toUInt32 31)).toInt32 &&& iI 255 = iI (bw w s.toNat) := by
  rw [pk_and _ (m := iI 255) 8 (by decide)]
  rcases hs with rfl | rfl | rfl | rfl
  · rw [pk_ushr w (iI 0) 0 (by decide), nI_iI]; rfl
  · rw [pk_ushr w (iI 8) 8 (by decide), nI_iI]; rfl
  · rw [pk_ushr w (iI 16) 16 (by decide), nI_iI]; rfl
  · rw [pk_ushr w (iI 24) 24 (by decide), nI_iI]; rfl
theorem toInt_nat (x : Int32) : x.toInt = x.toBitVec.toNat ∧ x.toBitVec.toNat < 2147483648 ∨ x.toInt = (x.toBitVec.toNat : Int) - 4294967296 ∧ 2147483648 ≤ x.toBitVec.toNat := by
  have h : x.toInt = x.toBitVec.toInt := rfl
  rw [h, BitVec.toInt_eq_toNat_cond]
  have := x.toBitVec.isLt
  split <;> omega
theorem shr_int {w : Int32} {s : Int} (hs : sOK s) : (w >>> (iI s &&& 31)).toInt = w.toInt / 2 ^ s.toNat := by
  rcases hs with rfl | rfl | rfl | rfl
  · rw [pk_shr w (iI 0 &&& 31) 0 (by decide)]; simp [Int.shiftRight_eq_div_pow]
  · rw [pk_shr w (iI 8 &&& 31) 8 (by decide)]; simp [Int.shiftRight_eq_div_pow]
  · rw [pk_shr w (iI 16 &&& 31) 16 (by decide)]; simp [Int.shiftRight_eq_div_pow]
  · rw [pk_shr w (iI 24 &&& 31) 24 (by decide)]; simp [Int.shiftRight_eq_div_pow]
theorem bw_int {w : Int32} {s : Int} (hs : sOK s) : (w >>> (iI s &&& 31)).toInt % 256 = bw w s.toNat := by
  rw [shr_int hs]
  unfold bw
  have := w.toBitVec.isLt
  rcases toInt_nat w with ⟨h, -⟩ | ⟨h, -⟩ <;> rcases hs with rfl | rfl | rfl | rfl <;> rw [h] <;> simp <;> omega
theorem bw_s {w : Int32} {s : Int} (hs : sOK s) : (w >>> (iI s &&& 31)) &&& iI 255 = iI (bw w s.toNat) := by
  rw [pk_and _ (m := iI 255) 8 (by decide), nI_iI]
  have h1 := bw_int (w := w) hs
  congr 1
  generalize w >>> (iI s &&& 31) = x at h1 ⊢
  rcases toInt_nat x with ⟨h, -⟩ | ⟨h, -⟩ <;> rw [h] at h1 <;> omega
theorem bw_b {w : Int32} {s : Int} (hs : sOK s) : vp_nar .byte (w >>> (iI s &&& 31)).toInt8.toInt32 = sb (bw w s.toNat) := by
  rw [pk_vb]
  have h1 := bw_int (w := w) hs
  have h2 := bw_lt w s.toNat
  generalize w >>> (iI s &&& 31) = x at h1 ⊢
  apply Int32.toInt_inj.mp
  rw [Int8.toInt_toInt32, Int32.toInt_toInt8, Int.bmod_def]
  unfold sb
  rw [iI_toInt (by split <;> omega) (by split <;> omega)]
  simp only [show ((2 : Nat) ^ 8 : Nat) = 256 by decide]
  split <;> split <;> omega
def nbw (w : Int32) : Int := (if bw w 24 = 0 then 0 else 1) + (if bw w 16 = 0 then 0 else 1) + (if bw w 8 = 0 then 0 else 1) + (if bw w 0 = 0 then 0 else 1)
theorem nbw_le (w : Int32) : 0 ≤ nbw w ∧ nbw w ≤ 4 := by unfold nbw; repeat' split <;> omega
theorem iI_bw0 {w : Int32} {s : Nat} : iI (bw w s) = 0 ↔ bw w s = 0 := by
  have := bw_lt w s
  rw [iI_eq0 (by omega)]; omega
theorem it_X8_filledBytes {l : Launch} {D : va_G} {cA ad : Nat → Nat} {d : Nat} {σ : AS} {K : Option Value → AS → Prop} {w : Int32} {s c : Int} (hs : sOK s) (k : Go l D cA ad d mX8_filledBytes 4 [.int w, .int (iI (c + (if bw w s.toNat = 0 then 0 else 1))), .int (iI (s + 8))] [] σ K) : Go l D cA ad d mX8_filledBytes 4 [.int w, .int (iI c), .int (iI s)] [] σ K := by
  refine go_iload_n dX8_filledBytes_4 rfl ?_
  refine go_bipush (v := iI 32) dX8_filledBytes_5 (by decide) ?_
  refine go_icmp_ge (tgt := 29) dX8_filledBytes_7 (by decide) (fun h7 => ?_) (fun h7 => ?_)
  · exact absurd h7 (by rcases hs with rfl | rfl | rfl | rfl <;> decide)
  · refine go_iload_n dX8_filledBytes_10 rfl ?_
    refine go_iload_n dX8_filledBytes_11 rfl ?_
    refine go_iushr dX8_filledBytes_12 ?_
    refine go_sipush (v := iI 255) dX8_filledBytes_13 (by decide) ?_
    refine go_iand dX8_filledBytes_16 ?_
    refine go_if_eq (tgt := 23) dX8_filledBytes_17 (by decide) (fun h17 => ?_) (fun h17 => ?_)
    · refine go_iincI dX8_filledBytes_23 rfl (Nat.le_of_ble_eq_true rfl) rfl ?_
      refine go_goto (tgt := 4) dX8_filledBytes_26 (by decide) ?_
      simp only [List.set, iI_add]
      simp only [bw_u hs, iI_bw0] at h17
      first | (rw [if_pos h17] at k; rw [Int.add_zero] at k; exact k) | (rw [if_neg h17] at k; exact k)
    · refine go_iincI dX8_filledBytes_20 rfl (Nat.le_of_ble_eq_true rfl) rfl ?_
      refine go_iincI dX8_filledBytes_23 rfl (Nat.le_of_ble_eq_true rfl) rfl ?_
      refine go_goto (tgt := 4) dX8_filledBytes_26 (by decide) ?_
      simp only [List.set, iI_add]
      simp only [bw_u hs, iI_bw0] at h17
      first | (rw [if_pos h17] at k; rw [Int.add_zero] at k; exact k) | (rw [if_neg h17] at k; exact k)
theorem ct_X8_filledBytes {l : Launch} {D : va_G} {cA ad : Nat → Nat} {d : Nat} {σ : AS} {K : Option Value → AS → Prop} {w : Int32} (hK : K (some (.int (iI (nbw w)))) σ) : Call l D cA ad d mX8_filledBytes [.int w] σ K := by
  refine call_go (by decide) (Nat.le_of_ble_eq_true rfl) (show Go l D cA ad d mX8_filledBytes 0 [.int w, .null, .null] [] σ K from ?_)
  refine go_iconst (v := iI 0) dX8_filledBytes_0 (by decide) ?_
  refine go_istore_n dX8_filledBytes_1 (Nat.le_of_ble_eq_true rfl) rfl ?_
  refine go_iconst (v := iI 0) dX8_filledBytes_2 (by decide) ?_
  refine go_istore_n dX8_filledBytes_3 (Nat.le_of_ble_eq_true rfl) rfl ?_
  refine it_X8_filledBytes (s := 0) (c := 0) (by unfold sOK; omega) ?_
  refine it_X8_filledBytes (s := 8) (by unfold sOK; omega) ?_
  refine it_X8_filledBytes (s := 16) (by unfold sOK; omega) ?_
  refine it_X8_filledBytes (s := 24) (by unfold sOK; omega) ?_
  refine go_iload_n dX8_filledBytes_4 rfl ?_
  refine go_bipush (v := iI 32) dX8_filledBytes_5 (by decide) ?_
  refine go_icmp_ge (tgt := 29) dX8_filledBytes_7 (by decide) (fun h7 => ?_) (fun h7 => ?_)
  · refine go_iload_n dX8_filledBytes_29 rfl ?_
    refine go_iret rfl rfl dX8_filledBytes_30 ?_
    have e : nbw w = 0 + (if bw w (Int.toNat 0) = 0 then 0 else 1) + (if bw w (Int.toNat 8) = 0 then 0 else 1) + (if bw w (Int.toNat 16) = 0 then 0 else 1) + (if bw w (Int.toNat 24) = 0 then 0 else 1) := by unfold nbw; simp; omega
    rw [e] at hK
    exact hK
  · exact absurd h7 (by decide)

theorem it_X12_bytesIn {l : Launch} {D : va_G} {cA ad : Nat → Nat} {d : Nat} {σ : AS} {K : Option Value → AS → Prop} {w : Int32} {s c : Int} (hs : sOK s) (k : Go l D cA ad d mX12_bytesIn 5 [.int w, .int (iI (c + (if bw w s.toNat = 0 then 0 else 1))), .int (iI (s + -8))] [] σ K) : Go l D cA ad d mX12_bytesIn 5 [.int w, .int (iI c), .int (iI s)] [] σ K := by
  refine go_iload_n dX12_bytesIn_5 rfl ?_
  refine go_if_lt (tgt := 33) dX12_bytesIn_6 (by decide) (fun h6 => ?_) (fun h6 => ?_)
  · exact absurd h6 (by rcases hs with rfl | rfl | rfl | rfl <;> decide)
  · refine go_iload_n dX12_bytesIn_9 rfl ?_
    refine go_iload_n dX12_bytesIn_10 rfl ?_
    refine go_iload_n dX12_bytesIn_11 rfl ?_
    refine go_ishr dX12_bytesIn_12 ?_
    refine go_sipush (v := iI 255) dX12_bytesIn_13 (by decide) ?_
    refine go_iand dX12_bytesIn_16 ?_
    refine go_if_eq (tgt := 24) dX12_bytesIn_17 (by decide) (fun h17 => ?_) (fun h17 => ?_)
    · refine go_iconst (v := iI 0) dX12_bytesIn_24 (by decide) ?_
      refine go_iadd dX12_bytesIn_25 ?_
      refine go_istore_n dX12_bytesIn_26 (Nat.le_of_ble_eq_true rfl) rfl ?_
      refine go_iincI dX12_bytesIn_27 rfl (Nat.le_of_ble_eq_true rfl) rfl ?_
      refine go_goto (tgt := 5) dX12_bytesIn_30 (by decide) ?_
      simp only [List.set, iI_add, Int.add_neg_eq_sub] at *
      simp only [bw_s hs, iI_bw0] at h17
      first | (rw [if_pos h17] at k; exact k) | (rw [if_neg h17] at k; exact k)
    · refine go_iconst (v := iI 1) dX12_bytesIn_20 (by decide) ?_
      refine go_goto (tgt := 25) dX12_bytesIn_21 (by decide) ?_
      refine go_iadd dX12_bytesIn_25 ?_
      refine go_istore_n dX12_bytesIn_26 (Nat.le_of_ble_eq_true rfl) rfl ?_
      refine go_iincI dX12_bytesIn_27 rfl (Nat.le_of_ble_eq_true rfl) rfl ?_
      refine go_goto (tgt := 5) dX12_bytesIn_30 (by decide) ?_
      simp only [List.set, iI_add, Int.add_neg_eq_sub] at *
      simp only [bw_s hs, iI_bw0] at h17
      first | (rw [if_pos h17] at k; exact k) | (rw [if_neg h17] at k; exact k)
theorem ct_X12_bytesIn {l : Launch} {D : va_G} {cA ad : Nat → Nat} {d : Nat} {σ : AS} {K : Option Value → AS → Prop} {w : Int32} (hK : K (some (.int (iI (nbw w)))) σ) : Call l D cA ad d mX12_bytesIn [.int w] σ K := by
  refine call_go (by decide) (Nat.le_of_ble_eq_true rfl) (show Go l D cA ad d mX12_bytesIn 0 [.int w, .null, .null] [] σ K from ?_)
  refine go_iconst (v := iI 0) dX12_bytesIn_0 (by decide) ?_
  refine go_istore_n dX12_bytesIn_1 (Nat.le_of_ble_eq_true rfl) rfl ?_
  refine go_bipush (v := iI 24) dX12_bytesIn_2 (by decide) ?_
  refine go_istore_n dX12_bytesIn_4 (Nat.le_of_ble_eq_true rfl) rfl ?_
  refine it_X12_bytesIn (s := 24) (c := 0) (by unfold sOK; omega) ?_
  refine it_X12_bytesIn (s := 16) (by unfold sOK; omega) ?_
  refine it_X12_bytesIn (s := 8) (by unfold sOK; omega) ?_
  refine it_X12_bytesIn (s := 0) (by unfold sOK; omega) ?_
  refine go_iload_n dX12_bytesIn_5 rfl ?_
  refine go_if_lt (tgt := 33) dX12_bytesIn_6 (by decide) (fun h6 => ?_) (fun h6 => ?_)
  · refine go_iload_n dX12_bytesIn_33 rfl ?_
    refine go_iret rfl rfl dX12_bytesIn_34 ?_
    have e : nbw w = 0 + (if bw w (Int.toNat 24) = 0 then 0 else 1) + (if bw w (Int.toNat 16) = 0 then 0 else 1) + (if bw w (Int.toNat 8) = 0 then 0 else 1) + (if bw w (Int.toNat 0) = 0 then 0 else 1) := by unfold nbw; simp
    rw [e] at hK
    exact hK
  · exact absurd h6 (by decide)

