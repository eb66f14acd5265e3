/-! String constants -/
def sc (i j : Nat) : Int := ((strT i).2.2.toList.map (fun c => (c.toNat : Int))).getD j 0
theorem sc_ok : ∀ i, i < 12 → (strB i).length ≤ 9 ∧ ∀ j, j < (strB i).length → (strB i).getD j 0 = iI (sc i j) ∧ 0 < sc i j ∧ sc i j < 128 := by decide +kernel
theorem sl_pos : ∀ i, i < 12 → 0 < (strB i).length := by decide +kernel
theorem shr0 (x : Int32) : x >>> (iI 0 &&& 31) = x := by
  apply Int32.toInt_inj.mp
  rw [pk_shr x (iI 0 &&& 31) 0 (by decide)]
  simp
theorem iI_tn {c : Int} (h : 0 ≤ c ∧ c < 2147483648) : (iI c).toBitVec.toNat = c.toNat := by
  have h1 := iI_toInt (z := c) (by omega) h.2
  rcases toInt_nat (iI c) with ⟨h2, -⟩ | ⟨h2, h3⟩
  · omega
  · have := (iI c).toBitVec.isLt
    omega
theorem iI_a255 {c : Int} (h : 0 ≤ c ∧ c ≤ 255) : iI c &&& iI 255 = iI c := by
  rw [pk_and _ (m := iI 255) 8 (by decide), iI_tn (by omega), nI_iI]
  congr 1
  omega
theorem iI_c {c : Int} (h : 0 ≤ c ∧ c < 65536) : ((iI c).toUInt32 % 65536).toInt32 = iI c := by
  rw [pk_char, iI_tn (by omega), nI_iI]
  congr 1
  omega
theorem iI_nc {c : Int} (h : 0 ≤ c ∧ c < 65536) : narrow .char (.int (iI c)) = .int (iI c) := by
  have := (pk_charN (q := c.toNat) (by omega)).1
  rw [nI_iI, Int.toNat_of_nonneg h.1] at this
  exact this
def c8 (c : Int) : Int := if c < 128 then c else c - 256
theorem iI_b {c : Int} (h : 0 ≤ c ∧ c ≤ 255) : (iI c).toInt8.toInt32 = iI (c8 c) := by
  unfold c8
  apply Int32.toInt_inj.mp
  rw [Int8.toInt_toInt32, Int32.toInt_toInt8, Int.bmod_def, iI_toInt (by omega) (by omega), iI_toInt (by split <;> omega) (by split <;> omega)]
  simp only [show ((2 : Nat) ^ 8 : Nat) = 256 by decide]
  split <;> split <;> omega
theorem c8_eq {c z : Int} (hc : 0 ≤ c ∧ c ≤ 255) (hz : 0 < z ∧ z < 128) : z = c8 c ↔ z = c := by unfold c8; split <;> omega
theorem c8_le {c : Int} (hc : 0 ≤ c ∧ c ≤ 255) : -128 ≤ c8 c ∧ c8 c < 128 := by unfold c8; split <;> omega
theorem ct_J0_coder_7d493 {l : Launch} {D : va_G} {cA ad : Nat → Nat} {d : Nat} {σ : AS} {K : Option Value → AS → Prop} {i : Nat} (hi : i < 12) (hK : K (some (.int (iI 0))) σ) : Call l D cA ad d mJ0_coder_7d493 [.ref (2000 + i)] σ K := by
  refine call_go (by decide) (Nat.le_of_ble_eq_true rfl) (show Go l D cA ad d mJ0_coder_7d493 0 [.ref (2000 + i)] [] σ K from ?_)
  refine go_scomp gJ0_38 dJ0_coder_7d493_0 ?_
  refine go_if_eq (tgt := 13) dJ0_coder_7d493_3 (by decide) (fun h3 => ?_) (fun h3 => ?_)
  · exact absurd h3 (by decide)
  · refine go_aload_n dJ0_coder_7d493_6 rfl ?_
    refine go_scod (i := i) hi gJ0_15 dJ0_coder_7d493_7 ?_
    refine go_goto (tgt := 14) dJ0_coder_7d493_10 (by decide) ?_
    refine go_iret rfl (by decide) dJ0_coder_7d493_14 ?_
    exact hK

theorem ct_J0_isLatin1_aae02 {l : Launch} {D : va_G} {cA ad : Nat → Nat} {d : Nat} {σ : AS} {K : Option Value → AS → Prop} {i : Nat} (hi : i < 12) (hK : K (some (.int (iI 1))) σ) : Call l D cA ad d mJ0_isLatin1_aae02 [.ref (2000 + i)] σ K := by
  refine call_go (by decide) (Nat.le_of_ble_eq_true rfl) (show Go l D cA ad d mJ0_isLatin1_aae02 0 [.ref (2000 + i)] [] σ K from ?_)
  refine go_scomp gJ0_38 dJ0_isLatin1_aae02_0 ?_
  refine go_if_eq (tgt := 17) dJ0_isLatin1_aae02_3 (by decide) (fun h3 => ?_) (fun h3 => ?_)
  · exact absurd h3 (by decide)
  · refine go_aload_n dJ0_isLatin1_aae02_6 rfl ?_
    refine go_scod (i := i) hi gJ0_15 dJ0_isLatin1_aae02_7 ?_
    refine go_if_ne (tgt := 17) dJ0_isLatin1_aae02_10 (by decide) (fun h10 => ?_) (fun h10 => ?_)
    · exact absurd (by decide) h10
    · refine go_iconst (v := iI 1) dJ0_isLatin1_aae02_13 (by decide) ?_
      refine go_goto (tgt := 18) dJ0_isLatin1_aae02_14 (by decide) ?_
      refine go_iret rfl rfl dJ0_isLatin1_aae02_18 ?_
      exact hK

theorem ct_J0_length_8abf5 {l : Launch} {D : va_G} {cA ad : Nat → Nat} {d : Nat} {σ : AS} {K : Option Value → AS → Prop} {i : Nat} (hi : i < 12) (hK : K (some (.int (iI (strB i).length))) σ) : Call l D cA ad (d + 1) mJ0_length_8abf5 [.ref (2000 + i)] σ K := by
  refine call_go (by decide) (Nat.le_of_ble_eq_true rfl) (show Go l D cA ad (d + 1) mJ0_length_8abf5 0 [.ref (2000 + i)] [] σ K from ?_)
  refine go_aload_n dJ0_length_8abf5_0 rfl ?_
  refine go_sval (i := i) hi gJ0_9 dJ0_length_8abf5_1 ?_
  refine go_slen (i := i) hi dJ0_length_8abf5_4 ?_
  refine go_aload_n dJ0_length_8abf5_5 rfl ?_
  refine go_callVs (i := i) (as := []) hi wJ0_335 rfl dJ0_length_8abf5_6 rfl rfl (Nat.le_of_ble_eq_true rfl) (ct_J0_coder_7d493 hi ?_)
  refine go_ishr dJ0_length_8abf5_9 ?_
  refine go_iret rfl rfl dJ0_length_8abf5_10 ?_
  rw [shr0]
  exact hK

theorem ct_J3_checkIndex_8e157 {l : Launch} {D : va_G} {cA ad : Nat → Nat} {d : Nat} {σ : AS} {K : Option Value → AS → Prop} {z n : Int} {v : Value} (hz : 0 ≤ z ∧ z < n ∧ n ≤ 1000) (hv : v = .null ∨ v = .ref 4000) (hK : K (some (.int (iI z))) σ) : Call l D cA ad d mJ3_checkIndex_8e157 [.int (iI z), .int (iI n), v] σ K := by
  rcases hv with rfl | rfl
  · refine call_go (by decide) (Nat.le_of_ble_eq_true rfl) (show Go l D cA ad d mJ3_checkIndex_8e157 0 [.int (iI z), .int (iI n), .null] [] σ K from ?_)
    refine go_iload_n dJ3_checkIndex_8e157_0 rfl ?_
    refine go_if_lt (tgt := 9) dJ3_checkIndex_8e157_1 (by decide) (fun h1 => ?_) (fun h1 => ?_)
    · exfalso
      rw [iI_lt0 (by omega)] at h1
      omega
    · refine go_iload_n dJ3_checkIndex_8e157_4 rfl ?_
      refine go_iload_n dJ3_checkIndex_8e157_5 rfl ?_
      refine go_icmp_lt (tgt := 16) dJ3_checkIndex_8e157_6 (by decide) (fun h6 => ?_) (fun h6 => ?_)
      · refine go_iload_n dJ3_checkIndex_8e157_16 rfl ?_
        refine go_iret rfl rfl dJ3_checkIndex_8e157_17 ?_
        exact hK
      · exfalso
        rw [iI_lt (by omega)] at h6
        omega
  · refine call_go (by decide) (Nat.le_of_ble_eq_true rfl) (show Go l D cA ad d mJ3_checkIndex_8e157 0 [.int (iI z), .int (iI n), .ref 4000] [] σ K from ?_)
    refine go_iload_n dJ3_checkIndex_8e157_0 rfl ?_
    refine go_if_lt (tgt := 9) dJ3_checkIndex_8e157_1 (by decide) (fun h1 => ?_) (fun h1 => ?_)
    · exfalso
      rw [iI_lt0 (by omega)] at h1
      omega
    · refine go_iload_n dJ3_checkIndex_8e157_4 rfl ?_
      refine go_iload_n dJ3_checkIndex_8e157_5 rfl ?_
      refine go_icmp_lt (tgt := 16) dJ3_checkIndex_8e157_6 (by decide) (fun h6 => ?_) (fun h6 => ?_)
      · refine go_iload_n dJ3_checkIndex_8e157_16 rfl ?_
        refine go_iret rfl rfl dJ3_checkIndex_8e157_17 ?_
        exact hK
      · exfalso
        rw [iI_lt (by omega)] at h6
        omega

theorem ct_J0_checkIndex_df160 {l : Launch} {D : va_G} {cA ad : Nat → Nat} {d : Nat} {σ : AS} {K : Option Value → AS → Prop} {z n : Int} (hz : 0 ≤ z ∧ z < n ∧ n ≤ 1000) (hK : K none σ) : Call l D cA ad (d + 1) mJ0_checkIndex_df160 [.int (iI z), .int (iI n)] σ K := by
  refine call_go (by decide) (Nat.le_of_ble_eq_true rfl) (show Go l D cA ad (d + 1) mJ0_checkIndex_df160 0 [.int (iI z), .int (iI n)] [] σ K from ?_)
  refine go_iload_n dJ0_checkIndex_df160_0 rfl ?_
  refine go_iload_n dJ0_checkIndex_df160_1 rfl ?_
  refine go_sfmt gJ0_1053 dJ0_checkIndex_df160_2 (fun v hv => ?_)
  refine go_callS (as := [_, _, _]) wJ0_1059 dJ0_checkIndex_df160_5 rfl rfl (Nat.le_of_ble_eq_true rfl) (ct_J3_checkIndex_8e157 hz hv ?_)
  refine go_pop dJ0_checkIndex_df160_8 rfl ?_
  refine go_vret rfl dJ0_checkIndex_df160_9 ?_
  exact hK

theorem ct_J1_charAt_3b067 {l : Launch} {D : va_G} {cA ad : Nat → Nat} {d : Nat} {σ : AS} {K : Option Value → AS → Prop} {i : Nat} {j : Int} (hi : i < 12) (hj : 0 ≤ j ∧ j < (strB i).length) (hK : K (some (.int (iI (sc i j.toNat)))) σ) : Call l D cA ad (d + 2) mJ1_charAt_3b067 [.ref (3000 + i), .int (iI j)] σ K := by
  refine call_go (by decide) (Nat.le_of_ble_eq_true rfl) (show Go l D cA ad (d + 2) mJ1_charAt_3b067 0 [.ref (3000 + i), .int (iI j)] [] σ K from ?_)
  refine go_iload_n dJ1_charAt_3b067_0 rfl ?_
  refine go_aload_n dJ1_charAt_3b067_1 rfl ?_
  refine go_slen (i := i) hi dJ1_charAt_3b067_2 ?_
  refine go_callS (as := [_, _]) wJ1_9 dJ1_charAt_3b067_3 rfl rfl (Nat.le_of_ble_eq_true rfl) (ct_J0_checkIndex_df160 (by have := (sc_ok i hi).1; omega) ?_)
  refine go_aload_n dJ1_charAt_3b067_6 rfl ?_
  refine go_iload_n dJ1_charAt_3b067_7 rfl ?_
  refine go_sb (i := i) hi dJ1_charAt_3b067_8 (by exact vp_iI hj (by have := (sc_ok i hi).1; omega)) ?_
  have hs := (sc_ok i hi).2 j.toNat (by omega)
  have e : (strB i).getD (iI j).toNatClampNeg 0 = iI (sc i j.toNat) := by rw [iI_cl (by have := (sc_ok i hi).1; omega)]; exact hs.1
  rw [e]
  refine go_sipush (v := iI 255) dJ1_charAt_3b067_9 (by decide) ?_
  refine go_iand dJ1_charAt_3b067_12 ?_
  refine go_i2c dJ1_charAt_3b067_13 ?_
  refine go_iret rfl (by rw [iI_a255 (by omega), iI_c (by omega)]; exact iI_nc (by omega)) dJ1_charAt_3b067_14 ?_
  rw [iI_a255 (by omega), iI_c (by omega)]
  exact hK

theorem ct_J0_charAt_5068e {l : Launch} {D : va_G} {cA ad : Nat → Nat} {d : Nat} {σ : AS} {K : Option Value → AS → Prop} {i : Nat} {j : Int} (hi : i < 12) (hj : 0 ≤ j ∧ j < (strB i).length) (hK : K (some (.int (iI (sc i j.toNat)))) σ) : Call l D cA ad (d + 3) mJ0_charAt_5068e [.ref (2000 + i), .int (iI j)] σ K := by
  refine call_go (by decide) (Nat.le_of_ble_eq_true rfl) (show Go l D cA ad (d + 3) mJ0_charAt_5068e 0 [.ref (2000 + i), .int (iI j)] [] σ K from ?_)
  refine go_aload_n dJ0_charAt_5068e_0 rfl ?_
  refine go_callVs (i := i) (as := []) hi wJ0_492 rfl dJ0_charAt_5068e_1 rfl rfl (Nat.le_of_ble_eq_true rfl) (ct_J0_isLatin1_aae02 hi ?_)
  refine go_if_eq (tgt := 16) dJ0_charAt_5068e_4 (by decide) (fun h4 => ?_) (fun h4 => ?_)
  · exact absurd h4 (by decide)
  · refine go_aload_n dJ0_charAt_5068e_7 rfl ?_
    refine go_sval (i := i) hi gJ0_9 dJ0_charAt_5068e_8 ?_
    refine go_iload_n dJ0_charAt_5068e_11 rfl ?_
    refine go_callS (as := [_, _]) wJ0_495 dJ0_charAt_5068e_12 rfl rfl (Nat.le_of_ble_eq_true rfl) (ct_J1_charAt_3b067 hi hj ?_)
    refine go_iret rfl (iI_nc (by have := (sc_ok i hi).2 j.toNat (by omega); omega)) dJ0_charAt_5068e_15 ?_
    exact hK

theorem ct_J1_canEncode_9a6ad {l : Launch} {D : va_G} {cA ad : Nat → Nat} {d : Nat} {σ : AS} {K : Option Value → AS → Prop} {c : Int} (hc : 0 ≤ c ∧ c ≤ 255) (hK : K (some (.int (iI 1))) σ) : Call l D cA ad d mJ1_canEncode_9a6ad [.int (iI c)] σ K := by
  refine call_go (by decide) (Nat.le_of_ble_eq_true rfl) (show Go l D cA ad d mJ1_canEncode_9a6ad 0 [.int (iI c)] [] σ K from ?_)
  refine go_iload_n dJ1_canEncode_9a6ad_0 rfl ?_
  refine go_if_lt (tgt := 15) dJ1_canEncode_9a6ad_1 (by decide) (fun h1 => ?_) (fun h1 => ?_)
  · exfalso
    rw [iI_lt0 (by omega)] at h1
    omega
  · refine go_iload_n dJ1_canEncode_9a6ad_4 rfl ?_
    refine go_sipush (v := iI 255) dJ1_canEncode_9a6ad_5 (by decide) ?_
    refine go_icmp_gt (tgt := 15) dJ1_canEncode_9a6ad_8 (by decide) (fun h8 => ?_) (fun h8 => ?_)
    · exfalso
      rw [iI_lt (by omega)] at h8
      omega
    · refine go_iconst (v := iI 1) dJ1_canEncode_9a6ad_11 (by decide) ?_
      refine go_goto (tgt := 16) dJ1_canEncode_9a6ad_12 (by decide) ?_
      refine go_iret rfl rfl dJ1_canEncode_9a6ad_16 ?_
      exact hK

theorem it_J1_indexOfChar {l : Launch} {D : va_G} {cA ad : Nat → Nat} {d : Nat} {σ : AS} {K : Option Value → AS → Prop} {i : Nat} {c : Int} (hi : i < 12) (hc : 0 ≤ c ∧ c ≤ 255) (hK1 : ∀ k : Nat, k < (strB i).length → sc i k = c → K (some (.int (iI k))) σ) (hK2 : (∀ k : Nat, k < (strB i).length → sc i k ≠ c) → K (some (.int (iI (-1)))) σ) : ∀ (n k : Nat), (strB i).length - k < n → k ≤ (strB i).length → (∀ j, j < k → sc i j ≠ c) → Go l D cA ad d mJ1_indexOfChar_4cfef 7 [.ref (3000 + i), .int (iI c), .int (iI 0), .int (iI (strB i).length), .int (iI (c8 c)), .int (iI k)] [] σ K := by
  have hl9 := (sc_ok i hi).1
  have hc8 := c8_le hc
  intro n
  induction n with
  | zero => intro k h; omega
  | succ n ih =>
  intro k hn hkl hk
  refine go_iload dJ1_indexOfChar_4cfef_7 rfl ?_
  refine go_iload_n dJ1_indexOfChar_4cfef_9 rfl ?_
  refine go_icmp_ge (tgt := 31) dJ1_indexOfChar_4cfef_10 (by decide) (fun h10 => ?_) (fun h10 => ?_)
  · rw [iI_le (by omega)] at h10
    refine go_iconst (v := iI (-1)) dJ1_indexOfChar_4cfef_31 (by decide) ?_
    refine go_iret rfl rfl dJ1_indexOfChar_4cfef_32 ?_
    exact hK2 (fun j hj => hk j (by omega))
  · rw [iI_le (by omega)] at h10
    have hs := (sc_ok i hi).2 k (by omega)
    refine go_aload_n dJ1_indexOfChar_4cfef_13 rfl ?_
    refine go_iload dJ1_indexOfChar_4cfef_14 rfl ?_
    refine go_sb (i := i) hi dJ1_indexOfChar_4cfef_16 (by exact vp_iI (by omega) (by omega)) ?_
    refine go_iload dJ1_indexOfChar_4cfef_17 rfl ?_
    refine go_icmp_ne (tgt := 25) dJ1_indexOfChar_4cfef_19 (by decide) (fun h19 => ?_) (fun h19 => ?_)
    · rw [iI_cl (by omega), Int.toNat_natCast, hs.1, iI_eq (by omega), c8_eq hc hs.2] at h19
      refine go_iincI dJ1_indexOfChar_4cfef_25 rfl (Nat.le_of_ble_eq_true rfl) rfl ?_
      refine go_goto (tgt := 7) dJ1_indexOfChar_4cfef_28 (by decide) ?_
      simp only [List.set, iI_add]
      exact ih (k + 1) (by omega) (by omega) (fun j hj => by
        rcases Nat.lt_or_ge j k with q | q
        · exact hk j q
        · rw [show j = k by omega]; exact h19)
    · rw [iI_cl (by omega), Int.toNat_natCast, hs.1, iI_eq (by omega), c8_eq hc hs.2] at h19
      refine go_iload dJ1_indexOfChar_4cfef_22 rfl ?_
      refine go_iret rfl rfl dJ1_indexOfChar_4cfef_24 ?_
      exact hK1 k (by omega) h19
theorem ct_J1_indexOfChar_4cfef {l : Launch} {D : va_G} {cA ad : Nat → Nat} {d : Nat} {σ : AS} {K : Option Value → AS → Prop} {i : Nat} {c : Int} (hi : i < 12) (hc : 0 ≤ c ∧ c ≤ 255) (hK1 : ∀ k : Nat, k < (strB i).length → sc i k = c → K (some (.int (iI k))) σ) (hK2 : (∀ k : Nat, k < (strB i).length → sc i k ≠ c) → K (some (.int (iI (-1)))) σ) : Call l D cA ad d mJ1_indexOfChar_4cfef [.ref (3000 + i), .int (iI c), .int (iI 0), .int (iI (strB i).length)] σ K := by
  refine call_go (by decide) (Nat.le_of_ble_eq_true rfl) (show Go l D cA ad d mJ1_indexOfChar_4cfef 0 [.ref (3000 + i), .int (iI c), .int (iI 0), .int (iI (strB i).length), .null, .null] [] σ K from ?_)
  refine go_iload_n dJ1_indexOfChar_4cfef_0 rfl ?_
  refine go_i2b dJ1_indexOfChar_4cfef_1 ?_
  refine go_istore dJ1_indexOfChar_4cfef_2 (Nat.le_of_ble_eq_true rfl) rfl ?_
  refine go_iload_n dJ1_indexOfChar_4cfef_4 rfl ?_
  refine go_istore dJ1_indexOfChar_4cfef_5 (Nat.le_of_ble_eq_true rfl) rfl ?_
  simp only [List.set, iI_b hc]
  exact it_J1_indexOfChar hi hc hK1 hK2 ((strB i).length + 1) 0 (by omega) (by omega) (fun j hj => by omega)

theorem ct_J1_indexOf_4cfef {l : Launch} {D : va_G} {cA ad : Nat → Nat} {d : Nat} {σ : AS} {K : Option Value → AS → Prop} {i : Nat} {c : Int} (hi : i < 12) (hc : 0 ≤ c ∧ c ≤ 255) (hK1 : ∀ k : Nat, k < (strB i).length → sc i k = c → K (some (.int (iI k))) σ) (hK2 : (∀ k : Nat, k < (strB i).length → sc i k ≠ c) → K (some (.int (iI (-1)))) σ) : Call l D cA ad (d + 1) mJ1_indexOf_4cfef [.ref (3000 + i), .int (iI c), .int (iI 0), .int (iI (strB i).length)] σ K := by
  have hl9 := (sc_ok i hi).1
  have hl1 := sl_pos i hi
  refine call_go (by decide) (Nat.le_of_ble_eq_true rfl) (show Go l D cA ad (d + 1) mJ1_indexOf_4cfef 0 [.ref (3000 + i), .int (iI c), .int (iI 0), .int (iI (strB i).length)] [] σ K from ?_)
  refine go_iload_n dJ1_indexOf_4cfef_0 rfl ?_
  refine go_callS (as := [_]) wJ1_88 dJ1_indexOf_4cfef_1 rfl rfl (Nat.le_of_ble_eq_true rfl) (ct_J1_canEncode_9a6ad hc ?_)
  refine go_if_ne (tgt := 9) dJ1_indexOf_4cfef_4 (by decide) (fun h4 => ?_) (fun h4 => ?_)
  · refine go_iload_n dJ1_indexOf_4cfef_9 rfl ?_
    refine go_iconst (v := iI 0) dJ1_indexOf_4cfef_10 (by decide) ?_
    refine go_max wJ1_92 dJ1_indexOf_4cfef_11 (Nat.le_of_ble_eq_true rfl) ?_
    simp only [iI_max (a := 0) (b := 0) (by omega), if_neg (show ¬ ((0 : Int) < 0) by omega)]
    refine go_istore_n dJ1_indexOf_4cfef_14 (Nat.le_of_ble_eq_true rfl) rfl ?_
    refine go_iload_n dJ1_indexOf_4cfef_15 rfl ?_
    refine go_aload_n dJ1_indexOf_4cfef_16 rfl ?_
    refine go_slen (i := i) hi dJ1_indexOf_4cfef_17 ?_
    refine go_min wJ1_38 dJ1_indexOf_4cfef_18 (Nat.le_of_ble_eq_true rfl) ?_
    simp only [iI_min (a := (strB i).length) (b := (strB i).length) (by omega), if_neg (show ¬ (((strB i).length : Int) < (strB i).length) by omega)]
    refine go_istore_n dJ1_indexOf_4cfef_21 (Nat.le_of_ble_eq_true rfl) rfl ?_
    refine go_iload_n dJ1_indexOf_4cfef_22 rfl ?_
    refine go_iload_n dJ1_indexOf_4cfef_23 rfl ?_
    refine go_icmp_lt (tgt := 29) dJ1_indexOf_4cfef_24 (by decide) (fun h24 => ?_) (fun h24 => ?_)
    · refine go_aload_n dJ1_indexOf_4cfef_29 rfl ?_
      refine go_iload_n dJ1_indexOf_4cfef_30 rfl ?_
      refine go_iload_n dJ1_indexOf_4cfef_31 rfl ?_
      refine go_iload_n dJ1_indexOf_4cfef_32 rfl ?_
      refine go_callS (as := [_, _, _, _]) wJ1_95 dJ1_indexOf_4cfef_33 rfl rfl (Nat.le_of_ble_eq_true rfl) (ct_J1_indexOfChar_4cfef hi hc (fun k h1 h2 => ?_) (fun h => ?_))
      · refine go_iret rfl rfl dJ1_indexOf_4cfef_36 ?_
        first | exact hK1 k h1 h2 | exact hK2 h
      · refine go_iret rfl rfl dJ1_indexOf_4cfef_36 ?_
        first | exact hK1 k h1 h2 | exact hK2 h
    · exfalso
      rw [iI_lt (by omega)] at h24
      omega
  · exact absurd h4 (by decide)

theorem ct_J0_indexOf_7cf53 {l : Launch} {D : va_G} {cA ad : Nat → Nat} {d : Nat} {σ : AS} {K : Option Value → AS → Prop} {i : Nat} {c : Int} (hi : i < 12) (hc : 0 ≤ c ∧ c ≤ 255) (hK1 : ∀ k : Nat, k < (strB i).length → sc i k = c → K (some (.int (iI k))) σ) (hK2 : (∀ k : Nat, k < (strB i).length → sc i k ≠ c) → K (some (.int (iI (-1)))) σ) : Call l D cA ad (d + 2) mJ0_indexOf_7cf53 [.ref (2000 + i), .int (iI c), .int (iI 0)] σ K := by
  refine call_go (by decide) (Nat.le_of_ble_eq_true rfl) (show Go l D cA ad (d + 2) mJ0_indexOf_7cf53 0 [.ref (2000 + i), .int (iI c), .int (iI 0)] [] σ K from ?_)
  refine go_aload_n dJ0_indexOf_7cf53_0 rfl ?_
  refine go_callVs (i := i) (as := []) hi wJ0_492 rfl dJ0_indexOf_7cf53_1 rfl rfl (Nat.le_of_ble_eq_true rfl) (ct_J0_isLatin1_aae02 hi ?_)
  refine go_if_eq (tgt := 23) dJ0_indexOf_7cf53_4 (by decide) (fun h4 => ?_) (fun h4 => ?_)
  · exact absurd h4 (by decide)
  · refine go_aload_n dJ0_indexOf_7cf53_7 rfl ?_
    refine go_sval (i := i) hi gJ0_9 dJ0_indexOf_7cf53_8 ?_
    refine go_iload_n dJ0_indexOf_7cf53_11 rfl ?_
    refine go_iload_n dJ0_indexOf_7cf53_12 rfl ?_
    refine go_aload_n dJ0_indexOf_7cf53_13 rfl ?_
    refine go_callVs (i := i) (as := []) hi wJ0_505 rfl dJ0_indexOf_7cf53_14 rfl rfl (Nat.le_of_ble_eq_true rfl) (ct_J0_length_8abf5 hi ?_)
    refine go_callS (as := [_, _, _, _]) wJ0_637 dJ0_indexOf_7cf53_17 rfl rfl (Nat.le_of_ble_eq_true rfl) (ct_J1_indexOf_4cfef hi hc (fun k h1 h2 => ?_) (fun h => ?_))
    · refine go_goto (tgt := 36) dJ0_indexOf_7cf53_20 (by decide) ?_
      refine go_iret rfl rfl dJ0_indexOf_7cf53_36 ?_
      first | exact hK1 k h1 h2 | exact hK2 h
    · refine go_goto (tgt := 36) dJ0_indexOf_7cf53_20 (by decide) ?_
      refine go_iret rfl rfl dJ0_indexOf_7cf53_36 ?_
      first | exact hK1 k h1 h2 | exact hK2 h

theorem ct_J0_indexOf_0f7a4 {l : Launch} {D : va_G} {cA ad : Nat → Nat} {d : Nat} {σ : AS} {K : Option Value → AS → Prop} {i : Nat} {c : Int} (hi : i < 12) (hc : 0 ≤ c ∧ c ≤ 255) (hK1 : ∀ k : Nat, k < (strB i).length → sc i k = c → K (some (.int (iI k))) σ) (hK2 : (∀ k : Nat, k < (strB i).length → sc i k ≠ c) → K (some (.int (iI (-1)))) σ) : Call l D cA ad (d + 3) mJ0_indexOf_0f7a4 [.ref (2000 + i), .int (iI c)] σ K := by
  refine call_go (by decide) (Nat.le_of_ble_eq_true rfl) (show Go l D cA ad (d + 3) mJ0_indexOf_0f7a4 0 [.ref (2000 + i), .int (iI c)] [] σ K from ?_)
  refine go_aload_n dJ0_indexOf_0f7a4_0 rfl ?_
  refine go_iload_n dJ0_indexOf_0f7a4_1 rfl ?_
  refine go_iconst (v := iI 0) dJ0_indexOf_0f7a4_2 (by decide) ?_
  refine go_callVs (i := i) (as := [_, _]) hi wJ0_633 rfl dJ0_indexOf_0f7a4_3 rfl rfl (Nat.le_of_ble_eq_true rfl) (ct_J0_indexOf_7cf53 hi hc (fun k h1 h2 => ?_) (fun h => ?_))
  · refine go_iret rfl rfl dJ0_indexOf_0f7a4_6 ?_
    first | exact hK1 k h1 h2 | exact hK2 h
  · refine go_iret rfl rfl dJ0_indexOf_0f7a4_6 ?_
    first | exact hK1 k h1 h2 | exact hK2 h

theorem it_X12_spotOf {l : Launch} {D : va_G} {cA ad : Nat → Nat} {d : Nat} {σ : AS} {K : Option Value → AS → Prop} {i : Nat} {c : Int} (hi : i < 12) (hc : -1 ≤ c ∧ c ≤ 255) (hK1 : ∀ k : Nat, k < (strB i).length → sc i k = c → K (some (.int (iI k))) σ) (hK2 : (∀ k : Nat, k < (strB i).length → sc i k ≠ c) → K (some (.int (iI (-1)))) σ) : ∀ (n k : Nat), (strB i).length - k < n → k ≤ (strB i).length → (∀ j, j < k → sc i j ≠ c) → Go l D cA ad (d + 4) mX12_spotOf 2 [.ref (2000 + i), .int (iI c), .int (iI k)] [] σ K := by
  have hl9 := (sc_ok i hi).1
  intro n
  induction n with
  | zero => intro k h; omega
  | succ n ih =>
  intro k hn hkl hk
  refine go_iload_n dX12_spotOf_2 rfl ?_
  refine go_aload_n dX12_spotOf_3 rfl ?_
  refine go_callVs (i := i) (as := []) hi wX12_99 rfl dX12_spotOf_4 rfl rfl (Nat.le_of_ble_eq_true rfl) (ct_J0_length_8abf5 hi ?_)
  refine go_icmp_ge (tgt := 27) dX12_spotOf_7 (by decide) (fun h7 => ?_) (fun h7 => ?_)
  · rw [iI_le (by omega)] at h7
    refine go_iconst (v := iI (-1)) dX12_spotOf_27 (by decide) ?_
    refine go_iret rfl rfl dX12_spotOf_28 ?_
    exact hK2 (fun j hj => hk j (by omega))
  · rw [iI_le (by omega)] at h7
    have hs := (sc_ok i hi).2 k (by omega)
    refine go_aload_n dX12_spotOf_10 rfl ?_
    refine go_iload_n dX12_spotOf_11 rfl ?_
    refine go_callVs (i := i) (as := [_]) hi wX12_105 rfl dX12_spotOf_12 rfl rfl (Nat.le_of_ble_eq_true rfl) (ct_J0_charAt_5068e hi (by omega) ?_)
    refine go_iload_n dX12_spotOf_15 rfl ?_
    refine go_icmp_ne (tgt := 21) dX12_spotOf_16 (by decide) (fun h16 => ?_) (fun h16 => ?_)
    · rw [Int.toNat_natCast, iI_eq (by omega)] at h16
      refine go_iincI dX12_spotOf_21 rfl (Nat.le_of_ble_eq_true rfl) rfl ?_
      refine go_goto (tgt := 2) dX12_spotOf_24 (by decide) ?_
      simp only [List.set, iI_add]
      exact ih (k + 1) (by omega) (by omega) (fun j hj => by
        rcases Nat.lt_or_ge j k with q | q
        · exact hk j q
        · rw [show j = k by omega]; exact h16)
    · rw [Int.toNat_natCast, iI_eq (by omega)] at h16
      refine go_iload_n dX12_spotOf_19 rfl ?_
      refine go_iret rfl rfl dX12_spotOf_20 ?_
      exact hK1 k (by omega) h16
theorem ct_X12_spotOf {l : Launch} {D : va_G} {cA ad : Nat → Nat} {d : Nat} {σ : AS} {K : Option Value → AS → Prop} {i : Nat} {c : Int} (hi : i < 12) (hc : -1 ≤ c ∧ c ≤ 255) (hK1 : ∀ k : Nat, k < (strB i).length → sc i k = c → K (some (.int (iI k))) σ) (hK2 : (∀ k : Nat, k < (strB i).length → sc i k ≠ c) → K (some (.int (iI (-1)))) σ) : Call l D cA ad (d + 4) mX12_spotOf [.ref (2000 + i), .int (iI c)] σ K := by
  refine call_go (by decide) (Nat.le_of_ble_eq_true rfl) (show Go l D cA ad (d + 4) mX12_spotOf 0 [.ref (2000 + i), .int (iI c), .null] [] σ K from ?_)
  refine go_iconst (v := iI 0) dX12_spotOf_0 (by decide) ?_
  refine go_istore_n dX12_spotOf_1 (Nat.le_of_ble_eq_true rfl) rfl ?_
  exact it_X12_spotOf hi hc hK1 hK2 ((strB i).length + 1) 0 (by omega) (by omega) (fun j hj => by omega)

theorem it_X12_isAmong {l : Launch} {D : va_G} {cA ad : Nat → Nat} {d : Nat} {σ : AS} {K : Option Value → AS → Prop} {i : Nat} {c : Int} (hi : i < 12) (hc : -1 ≤ c ∧ c ≤ 255) (hK1 : ∀ k : Nat, k < (strB i).length → sc i k = c → K (some (.int (iI 1))) σ) (hK2 : (∀ k : Nat, k < (strB i).length → sc i k ≠ c) → K (some (.int (iI 0))) σ) : ∀ (n k : Nat), (strB i).length - k < n → k ≤ (strB i).length → (∀ j, j < k → sc i j ≠ c) → Go l D cA ad (d + 4) mX12_isAmong 2 [.ref (2000 + i), .int (iI c), .int (iI k)] [] σ K := by
  have hl9 := (sc_ok i hi).1
  intro n
  induction n with
  | zero => intro k h; omega
  | succ n ih =>
  intro k hn hkl hk
  refine go_iload_n dX12_isAmong_2 rfl ?_
  refine go_aload_n dX12_isAmong_3 rfl ?_
  refine go_callVs (i := i) (as := []) hi wX12_99 rfl dX12_isAmong_4 rfl rfl (Nat.le_of_ble_eq_true rfl) (ct_J0_length_8abf5 hi ?_)
  refine go_icmp_ge (tgt := 27) dX12_isAmong_7 (by decide) (fun h7 => ?_) (fun h7 => ?_)
  · rw [iI_le (by omega)] at h7
    refine go_iconst (v := iI 0) dX12_isAmong_27 (by decide) ?_
    refine go_iret rfl rfl dX12_isAmong_28 ?_
    exact hK2 (fun j hj => hk j (by omega))
  · rw [iI_le (by omega)] at h7
    have hs := (sc_ok i hi).2 k (by omega)
    refine go_aload_n dX12_isAmong_10 rfl ?_
    refine go_iload_n dX12_isAmong_11 rfl ?_
    refine go_callVs (i := i) (as := [_]) hi wX12_105 rfl dX12_isAmong_12 rfl rfl (Nat.le_of_ble_eq_true rfl) (ct_J0_charAt_5068e hi (by omega) ?_)
    refine go_iload_n dX12_isAmong_15 rfl ?_
    refine go_icmp_ne (tgt := 21) dX12_isAmong_16 (by decide) (fun h16 => ?_) (fun h16 => ?_)
    · rw [Int.toNat_natCast, iI_eq (by omega)] at h16
      refine go_iincI dX12_isAmong_21 rfl (Nat.le_of_ble_eq_true rfl) rfl ?_
      refine go_goto (tgt := 2) dX12_isAmong_24 (by decide) ?_
      simp only [List.set, iI_add]
      exact ih (k + 1) (by omega) (by omega) (fun j hj => by
        rcases Nat.lt_or_ge j k with q | q
        · exact hk j q
        · rw [show j = k by omega]; exact h16)
    · rw [Int.toNat_natCast, iI_eq (by omega)] at h16
      refine go_iconst (v := iI 1) dX12_isAmong_19 (by decide) ?_
      refine go_iret rfl rfl dX12_isAmong_20 ?_
      exact hK1 k (by omega) h16
theorem ct_X12_isAmong {l : Launch} {D : va_G} {cA ad : Nat → Nat} {d : Nat} {σ : AS} {K : Option Value → AS → Prop} {i : Nat} {c : Int} (hi : i < 12) (hc : -1 ≤ c ∧ c ≤ 255) (hK1 : ∀ k : Nat, k < (strB i).length → sc i k = c → K (some (.int (iI 1))) σ) (hK2 : (∀ k : Nat, k < (strB i).length → sc i k ≠ c) → K (some (.int (iI 0))) σ) : Call l D cA ad (d + 4) mX12_isAmong [.ref (2000 + i), .int (iI c)] σ K := by
  refine call_go (by decide) (Nat.le_of_ble_eq_true rfl) (show Go l D cA ad (d + 4) mX12_isAmong 0 [.ref (2000 + i), .int (iI c), .null] [] σ K from ?_)
  refine go_iconst (v := iI 0) dX12_isAmong_0 (by decide) ?_
  refine go_istore_n dX12_isAmong_1 (Nat.le_of_ble_eq_true rfl) rfl ?_
  exact it_X12_isAmong hi hc hK1 hK2 ((strB i).length + 1) 0 (by omega) (by omega) (fun j hj => by omega)

