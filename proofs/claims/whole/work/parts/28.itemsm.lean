def kc (κ : Nat) : Int := [115, 112, 105].getD κ 0
theorem ct_X12_usual {l : Launch} {D : va_G} {cA ad : Nat → Nat} {d : Nat} {σ : AS} {K : Option Value → AS → Prop} {κ j : Nat} (hκ : κ < 3) (hj : j < kN κ) (hK : K (some (.int (iI (unK κ j)))) σ) : Call l D cA ad d mX12_usual [.int (iI (kc κ)), .int (iI j)] σ K := by
  match κ, hκ, j, hj, hK with
  | 0, _, 0, _, hK =>
    refine call_go (by decide) (Nat.le_of_ble_eq_true rfl) (show Go l D cA ad d mX12_usual 0 [.int (iI 115), .int (iI 0)] [] σ K from ?_)
    refine go_iload_n dX12_usual_0 rfl ?_
    refine go_bipush (v := iI 115) dX12_usual_1 (by decide) ?_
    refine go_icmp_ne (tgt := 25) dX12_usual_3 (by decide) (fun h => absurd (by decide) h) (fun _ => ?_)
    refine go_iload_n dX12_usual_6 rfl ?_
    refine go_if_ne (tgt := 14) dX12_usual_7 (by decide) (fun h => absurd (by decide) h) (fun _ => ?_)
    refine go_iconst (v := iI 0) dX12_usual_10 (by decide) ?_
    refine go_goto (tgt := 24) dX12_usual_11 (by decide) ?_
    refine go_iret rfl rfl dX12_usual_24 ?_
    exact hK
  | 0, _, 1, _, hK =>
    refine call_go (by decide) (Nat.le_of_ble_eq_true rfl) (show Go l D cA ad d mX12_usual 0 [.int (iI 115), .int (iI 1)] [] σ K from ?_)
    refine go_iload_n dX12_usual_0 rfl ?_
    refine go_bipush (v := iI 115) dX12_usual_1 (by decide) ?_
    refine go_icmp_ne (tgt := 25) dX12_usual_3 (by decide) (fun h => absurd (by decide) h) (fun _ => ?_)
    refine go_iload_n dX12_usual_6 rfl ?_
    refine go_if_ne (tgt := 14) dX12_usual_7 (by decide) (fun _ => ?_) (fun h => absurd h (by decide))
    refine go_iload_n dX12_usual_14 rfl ?_
    refine go_iconst (v := iI 1) dX12_usual_15 (by decide) ?_
    refine go_icmp_ne (tgt := 23) dX12_usual_16 (by decide) (fun h => absurd (by decide) h) (fun _ => ?_)
    refine go_iconst (v := iI 1) dX12_usual_19 (by decide) ?_
    refine go_goto (tgt := 24) dX12_usual_20 (by decide) ?_
    refine go_iret rfl rfl dX12_usual_24 ?_
    exact hK
  | 0, _, 2, _, hK =>
    refine call_go (by decide) (Nat.le_of_ble_eq_true rfl) (show Go l D cA ad d mX12_usual 0 [.int (iI 115), .int (iI 2)] [] σ K from ?_)
    refine go_iload_n dX12_usual_0 rfl ?_
    refine go_bipush (v := iI 115) dX12_usual_1 (by decide) ?_
    refine go_icmp_ne (tgt := 25) dX12_usual_3 (by decide) (fun h => absurd (by decide) h) (fun _ => ?_)
    refine go_iload_n dX12_usual_6 rfl ?_
    refine go_if_ne (tgt := 14) dX12_usual_7 (by decide) (fun _ => ?_) (fun h => absurd h (by decide))
    refine go_iload_n dX12_usual_14 rfl ?_
    refine go_iconst (v := iI 1) dX12_usual_15 (by decide) ?_
    refine go_icmp_ne (tgt := 23) dX12_usual_16 (by decide) (fun _ => ?_) (fun h => absurd h (by decide))
    refine go_iconst (v := iI 5) dX12_usual_23 (by decide) ?_
    refine go_iret rfl rfl dX12_usual_24 ?_
    exact hK
  | 0, _, j + 3, h, _ => exact absurd h (by show ¬ (j + 3 < 3); omega)
  | 1, _, 0, _, hK =>
    refine call_go (by decide) (Nat.le_of_ble_eq_true rfl) (show Go l D cA ad d mX12_usual 0 [.int (iI 112), .int (iI 0)] [] σ K from ?_)
    refine go_iload_n dX12_usual_0 rfl ?_
    refine go_bipush (v := iI 115) dX12_usual_1 (by decide) ?_
    refine go_icmp_ne (tgt := 25) dX12_usual_3 (by decide) (fun _ => ?_) (fun h => absurd h (by decide))
    refine go_iload_n dX12_usual_25 rfl ?_
    refine go_bipush (v := iI 105) dX12_usual_26 (by decide) ?_
    refine go_icmp_ne (tgt := 51) dX12_usual_28 (by decide) (fun _ => ?_) (fun h => absurd h (by decide))
    refine go_iload_n dX12_usual_51 rfl ?_
    refine go_tabIn (off := 44) (tgt := 96) dX12_usual_52 (by decide) (by decide) (by decide) (by decide) ?_
    refine go_bipush (v := iI 30) dX12_usual_96 (by decide) ?_
    refine go_iret rfl rfl dX12_usual_98 ?_
    exact hK
  | 1, _, 1, _, hK =>
    refine call_go (by decide) (Nat.le_of_ble_eq_true rfl) (show Go l D cA ad d mX12_usual 0 [.int (iI 112), .int (iI 1)] [] σ K from ?_)
    refine go_iload_n dX12_usual_0 rfl ?_
    refine go_bipush (v := iI 115) dX12_usual_1 (by decide) ?_
    refine go_icmp_ne (tgt := 25) dX12_usual_3 (by decide) (fun _ => ?_) (fun h => absurd h (by decide))
    refine go_iload_n dX12_usual_25 rfl ?_
    refine go_bipush (v := iI 105) dX12_usual_26 (by decide) ?_
    refine go_icmp_ne (tgt := 51) dX12_usual_28 (by decide) (fun _ => ?_) (fun h => absurd h (by decide))
    refine go_iload_n dX12_usual_51 rfl ?_
    refine go_tabIn (off := 47) (tgt := 99) dX12_usual_52 (by decide) (by decide) (by decide) (by decide) ?_
    refine go_bipush (v := iI 60) dX12_usual_99 (by decide) ?_
    refine go_iret rfl rfl dX12_usual_101 ?_
    exact hK
  | 1, _, 2, _, hK =>
    refine call_go (by decide) (Nat.le_of_ble_eq_true rfl) (show Go l D cA ad d mX12_usual 0 [.int (iI 112), .int (iI 2)] [] σ K from ?_)
    refine go_iload_n dX12_usual_0 rfl ?_
    refine go_bipush (v := iI 115) dX12_usual_1 (by decide) ?_
    refine go_icmp_ne (tgt := 25) dX12_usual_3 (by decide) (fun _ => ?_) (fun h => absurd h (by decide))
    refine go_iload_n dX12_usual_25 rfl ?_
    refine go_bipush (v := iI 105) dX12_usual_26 (by decide) ?_
    refine go_icmp_ne (tgt := 51) dX12_usual_28 (by decide) (fun _ => ?_) (fun h => absurd h (by decide))
    refine go_iload_n dX12_usual_51 rfl ?_
    refine go_tabIn (off := 59) (tgt := 111) dX12_usual_52 (by decide) (by decide) (by decide) (by decide) ?_
    refine go_iconst (v := iI 0) dX12_usual_111 (by decide) ?_
    refine go_iret rfl rfl dX12_usual_112 ?_
    exact hK
  | 1, _, 3, _, hK =>
    refine call_go (by decide) (Nat.le_of_ble_eq_true rfl) (show Go l D cA ad d mX12_usual 0 [.int (iI 112), .int (iI 3)] [] σ K from ?_)
    refine go_iload_n dX12_usual_0 rfl ?_
    refine go_bipush (v := iI 115) dX12_usual_1 (by decide) ?_
    refine go_icmp_ne (tgt := 25) dX12_usual_3 (by decide) (fun _ => ?_) (fun h => absurd h (by decide))
    refine go_iload_n dX12_usual_25 rfl ?_
    refine go_bipush (v := iI 105) dX12_usual_26 (by decide) ?_
    refine go_icmp_ne (tgt := 51) dX12_usual_28 (by decide) (fun _ => ?_) (fun h => absurd h (by decide))
    refine go_iload_n dX12_usual_51 rfl ?_
    refine go_tabIn (off := 50) (tgt := 102) dX12_usual_52 (by decide) (by decide) (by decide) (by decide) ?_
    refine go_bipush (v := iI 10) dX12_usual_102 (by decide) ?_
    refine go_iret rfl rfl dX12_usual_104 ?_
    exact hK
  | 1, _, 4, _, hK =>
    refine call_go (by decide) (Nat.le_of_ble_eq_true rfl) (show Go l D cA ad d mX12_usual 0 [.int (iI 112), .int (iI 4)] [] σ K from ?_)
    refine go_iload_n dX12_usual_0 rfl ?_
    refine go_bipush (v := iI 115) dX12_usual_1 (by decide) ?_
    refine go_icmp_ne (tgt := 25) dX12_usual_3 (by decide) (fun _ => ?_) (fun h => absurd h (by decide))
    refine go_iload_n dX12_usual_25 rfl ?_
    refine go_bipush (v := iI 105) dX12_usual_26 (by decide) ?_
    refine go_icmp_ne (tgt := 51) dX12_usual_28 (by decide) (fun _ => ?_) (fun h => absurd h (by decide))
    refine go_iload_n dX12_usual_51 rfl ?_
    refine go_tabIn (off := 59) (tgt := 111) dX12_usual_52 (by decide) (by decide) (by decide) (by decide) ?_
    refine go_iconst (v := iI 0) dX12_usual_111 (by decide) ?_
    refine go_iret rfl rfl dX12_usual_112 ?_
    exact hK
  | 1, _, 5, _, hK =>
    refine call_go (by decide) (Nat.le_of_ble_eq_true rfl) (show Go l D cA ad d mX12_usual 0 [.int (iI 112), .int (iI 5)] [] σ K from ?_)
    refine go_iload_n dX12_usual_0 rfl ?_
    refine go_bipush (v := iI 115) dX12_usual_1 (by decide) ?_
    refine go_icmp_ne (tgt := 25) dX12_usual_3 (by decide) (fun _ => ?_) (fun h => absurd h (by decide))
    refine go_iload_n dX12_usual_25 rfl ?_
    refine go_bipush (v := iI 105) dX12_usual_26 (by decide) ?_
    refine go_icmp_ne (tgt := 51) dX12_usual_28 (by decide) (fun _ => ?_) (fun h => absurd h (by decide))
    refine go_iload_n dX12_usual_51 rfl ?_
    refine go_tabIn (off := 53) (tgt := 105) dX12_usual_52 (by decide) (by decide) (by decide) (by decide) ?_
    refine go_bipush (v := iI 50) dX12_usual_105 (by decide) ?_
    refine go_iret rfl rfl dX12_usual_107 ?_
    exact hK
  | 1, _, 6, _, hK =>
    refine call_go (by decide) (Nat.le_of_ble_eq_true rfl) (show Go l D cA ad d mX12_usual 0 [.int (iI 112), .int (iI 6)] [] σ K from ?_)
    refine go_iload_n dX12_usual_0 rfl ?_
    refine go_bipush (v := iI 115) dX12_usual_1 (by decide) ?_
    refine go_icmp_ne (tgt := 25) dX12_usual_3 (by decide) (fun _ => ?_) (fun h => absurd h (by decide))
    refine go_iload_n dX12_usual_25 rfl ?_
    refine go_bipush (v := iI 105) dX12_usual_26 (by decide) ?_
    refine go_icmp_ne (tgt := 51) dX12_usual_28 (by decide) (fun _ => ?_) (fun h => absurd h (by decide))
    refine go_iload_n dX12_usual_51 rfl ?_
    refine go_tabIn (off := 56) (tgt := 108) dX12_usual_52 (by decide) (by decide) (by decide) (by decide) ?_
    refine go_bipush (v := iI 25) dX12_usual_108 (by decide) ?_
    refine go_iret rfl rfl dX12_usual_110 ?_
    exact hK
  | 1, _, 7, _, hK =>
    refine call_go (by decide) (Nat.le_of_ble_eq_true rfl) (show Go l D cA ad d mX12_usual 0 [.int (iI 112), .int (iI 7)] [] σ K from ?_)
    refine go_iload_n dX12_usual_0 rfl ?_
    refine go_bipush (v := iI 115) dX12_usual_1 (by decide) ?_
    refine go_icmp_ne (tgt := 25) dX12_usual_3 (by decide) (fun _ => ?_) (fun h => absurd h (by decide))
    refine go_iload_n dX12_usual_25 rfl ?_
    refine go_bipush (v := iI 105) dX12_usual_26 (by decide) ?_
    refine go_icmp_ne (tgt := 51) dX12_usual_28 (by decide) (fun _ => ?_) (fun h => absurd h (by decide))
    refine go_iload_n dX12_usual_51 rfl ?_
    refine go_tabOut (tgt := 111) dX12_usual_52 (by decide) (by decide) ?_
    refine go_iconst (v := iI 0) dX12_usual_111 (by decide) ?_
    refine go_iret rfl rfl dX12_usual_112 ?_
    exact hK
  | 1, _, 8, _, hK =>
    refine call_go (by decide) (Nat.le_of_ble_eq_true rfl) (show Go l D cA ad d mX12_usual 0 [.int (iI 112), .int (iI 8)] [] σ K from ?_)
    refine go_iload_n dX12_usual_0 rfl ?_
    refine go_bipush (v := iI 115) dX12_usual_1 (by decide) ?_
    refine go_icmp_ne (tgt := 25) dX12_usual_3 (by decide) (fun _ => ?_) (fun h => absurd h (by decide))
    refine go_iload_n dX12_usual_25 rfl ?_
    refine go_bipush (v := iI 105) dX12_usual_26 (by decide) ?_
    refine go_icmp_ne (tgt := 51) dX12_usual_28 (by decide) (fun _ => ?_) (fun h => absurd h (by decide))
    refine go_iload_n dX12_usual_51 rfl ?_
    refine go_tabOut (tgt := 111) dX12_usual_52 (by decide) (by decide) ?_
    refine go_iconst (v := iI 0) dX12_usual_111 (by decide) ?_
    refine go_iret rfl rfl dX12_usual_112 ?_
    exact hK
  | 1, _, j + 9, h, _ => exact absurd h (by show ¬ (j + 9 < 9); omega)
  | 2, _, 0, _, hK =>
    refine call_go (by decide) (Nat.le_of_ble_eq_true rfl) (show Go l D cA ad d mX12_usual 0 [.int (iI 105), .int (iI 0)] [] σ K from ?_)
    refine go_iload_n dX12_usual_0 rfl ?_
    refine go_bipush (v := iI 115) dX12_usual_1 (by decide) ?_
    refine go_icmp_ne (tgt := 25) dX12_usual_3 (by decide) (fun _ => ?_) (fun h => absurd h (by decide))
    refine go_iload_n dX12_usual_25 rfl ?_
    refine go_bipush (v := iI 105) dX12_usual_26 (by decide) ?_
    refine go_icmp_ne (tgt := 51) dX12_usual_28 (by decide) (fun h => absurd (by decide) h) (fun _ => ?_)
    refine go_iload_n dX12_usual_31 rfl ?_
    refine go_iconst (v := iI 1) dX12_usual_32 (by decide) ?_
    refine go_icmp_ne (tgt := 40) dX12_usual_33 (by decide) (fun _ => ?_) (fun h => absurd h (by decide))
    refine go_iload_n dX12_usual_40 rfl ?_
    refine go_iconst (v := iI 2) dX12_usual_41 (by decide) ?_
    refine go_icmp_ne (tgt := 49) dX12_usual_42 (by decide) (fun _ => ?_) (fun h => absurd h (by decide))
    refine go_iconst (v := iI 0) dX12_usual_49 (by decide) ?_
    refine go_iret rfl rfl dX12_usual_50 ?_
    exact hK
  | 2, _, 1, _, hK =>
    refine call_go (by decide) (Nat.le_of_ble_eq_true rfl) (show Go l D cA ad d mX12_usual 0 [.int (iI 105), .int (iI 1)] [] σ K from ?_)
    refine go_iload_n dX12_usual_0 rfl ?_
    refine go_bipush (v := iI 115) dX12_usual_1 (by decide) ?_
    refine go_icmp_ne (tgt := 25) dX12_usual_3 (by decide) (fun _ => ?_) (fun h => absurd h (by decide))
    refine go_iload_n dX12_usual_25 rfl ?_
    refine go_bipush (v := iI 105) dX12_usual_26 (by decide) ?_
    refine go_icmp_ne (tgt := 51) dX12_usual_28 (by decide) (fun h => absurd (by decide) h) (fun _ => ?_)
    refine go_iload_n dX12_usual_31 rfl ?_
    refine go_iconst (v := iI 1) dX12_usual_32 (by decide) ?_
    refine go_icmp_ne (tgt := 40) dX12_usual_33 (by decide) (fun h => absurd (by decide) h) (fun _ => ?_)
    refine go_iconst (v := iI 1) dX12_usual_36 (by decide) ?_
    refine go_goto (tgt := 50) dX12_usual_37 (by decide) ?_
    refine go_iret rfl rfl dX12_usual_50 ?_
    exact hK
  | 2, _, 2, _, hK =>
    refine call_go (by decide) (Nat.le_of_ble_eq_true rfl) (show Go l D cA ad d mX12_usual 0 [.int (iI 105), .int (iI 2)] [] σ K from ?_)
    refine go_iload_n dX12_usual_0 rfl ?_
    refine go_bipush (v := iI 115) dX12_usual_1 (by decide) ?_
    refine go_icmp_ne (tgt := 25) dX12_usual_3 (by decide) (fun _ => ?_) (fun h => absurd h (by decide))
    refine go_iload_n dX12_usual_25 rfl ?_
    refine go_bipush (v := iI 105) dX12_usual_26 (by decide) ?_
    refine go_icmp_ne (tgt := 51) dX12_usual_28 (by decide) (fun h => absurd (by decide) h) (fun _ => ?_)
    refine go_iload_n dX12_usual_31 rfl ?_
    refine go_iconst (v := iI 1) dX12_usual_32 (by decide) ?_
    refine go_icmp_ne (tgt := 40) dX12_usual_33 (by decide) (fun _ => ?_) (fun h => absurd h (by decide))
    refine go_iload_n dX12_usual_40 rfl ?_
    refine go_iconst (v := iI 2) dX12_usual_41 (by decide) ?_
    refine go_icmp_ne (tgt := 49) dX12_usual_42 (by decide) (fun h => absurd (by decide) h) (fun _ => ?_)
    refine go_iconst (v := iI 3) dX12_usual_45 (by decide) ?_
    refine go_goto (tgt := 50) dX12_usual_46 (by decide) ?_
    refine go_iret rfl rfl dX12_usual_50 ?_
    exact hK
  | 2, _, 3, _, hK =>
    refine call_go (by decide) (Nat.le_of_ble_eq_true rfl) (show Go l D cA ad d mX12_usual 0 [.int (iI 105), .int (iI 3)] [] σ K from ?_)
    refine go_iload_n dX12_usual_0 rfl ?_
    refine go_bipush (v := iI 115) dX12_usual_1 (by decide) ?_
    refine go_icmp_ne (tgt := 25) dX12_usual_3 (by decide) (fun _ => ?_) (fun h => absurd h (by decide))
    refine go_iload_n dX12_usual_25 rfl ?_
    refine go_bipush (v := iI 105) dX12_usual_26 (by decide) ?_
    refine go_icmp_ne (tgt := 51) dX12_usual_28 (by decide) (fun h => absurd (by decide) h) (fun _ => ?_)
    refine go_iload_n dX12_usual_31 rfl ?_
    refine go_iconst (v := iI 1) dX12_usual_32 (by decide) ?_
    refine go_icmp_ne (tgt := 40) dX12_usual_33 (by decide) (fun _ => ?_) (fun h => absurd h (by decide))
    refine go_iload_n dX12_usual_40 rfl ?_
    refine go_iconst (v := iI 2) dX12_usual_41 (by decide) ?_
    refine go_icmp_ne (tgt := 49) dX12_usual_42 (by decide) (fun _ => ?_) (fun h => absurd h (by decide))
    refine go_iconst (v := iI 0) dX12_usual_49 (by decide) ?_
    refine go_iret rfl rfl dX12_usual_50 ?_
    exact hK
  | 2, _, 4, _, hK =>
    refine call_go (by decide) (Nat.le_of_ble_eq_true rfl) (show Go l D cA ad d mX12_usual 0 [.int (iI 105), .int (iI 4)] [] σ K from ?_)
    refine go_iload_n dX12_usual_0 rfl ?_
    refine go_bipush (v := iI 115) dX12_usual_1 (by decide) ?_
    refine go_icmp_ne (tgt := 25) dX12_usual_3 (by decide) (fun _ => ?_) (fun h => absurd h (by decide))
    refine go_iload_n dX12_usual_25 rfl ?_
    refine go_bipush (v := iI 105) dX12_usual_26 (by decide) ?_
    refine go_icmp_ne (tgt := 51) dX12_usual_28 (by decide) (fun h => absurd (by decide) h) (fun _ => ?_)
    refine go_iload_n dX12_usual_31 rfl ?_
    refine go_iconst (v := iI 1) dX12_usual_32 (by decide) ?_
    refine go_icmp_ne (tgt := 40) dX12_usual_33 (by decide) (fun _ => ?_) (fun h => absurd h (by decide))
    refine go_iload_n dX12_usual_40 rfl ?_
    refine go_iconst (v := iI 2) dX12_usual_41 (by decide) ?_
    refine go_icmp_ne (tgt := 49) dX12_usual_42 (by decide) (fun _ => ?_) (fun h => absurd h (by decide))
    refine go_iconst (v := iI 0) dX12_usual_49 (by decide) ?_
    refine go_iret rfl rfl dX12_usual_50 ?_
    exact hK
  | 2, _, j + 5, h, _ => exact absurd h (by show ¬ (j + 5 < 5); omega)
  | κ + 3, h, _, _, _ => omega
theorem ct_X12_leastOf {l : Launch} {D : va_G} {cA ad : Nat → Nat} {d : Nat} {σ : AS} {K : Option Value → AS → Prop} {κ j : Nat} (hκ : κ < 3) (hj : j < kN κ) (hK : K (some (.int (iI (loK κ j)))) σ) : Call l D cA ad d mX12_leastOf [.int (iI (kc κ)), .int (iI j)] σ K := by
  match κ, hκ, j, hj, hK with
  | 0, _, 0, _, hK =>
    refine call_go (by decide) (Nat.le_of_ble_eq_true rfl) (show Go l D cA ad d mX12_leastOf 0 [.int (iI 115), .int (iI 0)] [] σ K from ?_)
    refine go_iload_n dX12_leastOf_0 rfl ?_
    refine go_bipush (v := iI 112) dX12_leastOf_1 (by decide) ?_
    refine go_icmp_ne (tgt := 11) dX12_leastOf_3 (by decide) (fun _ => ?_) (fun h => absurd h (by decide))
    refine go_iload_n dX12_leastOf_11 rfl ?_
    refine go_bipush (v := iI 105) dX12_leastOf_12 (by decide) ?_
    refine go_icmp_ne (tgt := 26) dX12_leastOf_14 (by decide) (fun _ => ?_) (fun h => absurd h (by decide))
    refine go_iconst (v := iI 0) dX12_leastOf_26 (by decide) ?_
    refine go_iret rfl rfl dX12_leastOf_27 ?_
    exact hK
  | 0, _, 1, _, hK =>
    refine call_go (by decide) (Nat.le_of_ble_eq_true rfl) (show Go l D cA ad d mX12_leastOf 0 [.int (iI 115), .int (iI 1)] [] σ K from ?_)
    refine go_iload_n dX12_leastOf_0 rfl ?_
    refine go_bipush (v := iI 112) dX12_leastOf_1 (by decide) ?_
    refine go_icmp_ne (tgt := 11) dX12_leastOf_3 (by decide) (fun _ => ?_) (fun h => absurd h (by decide))
    refine go_iload_n dX12_leastOf_11 rfl ?_
    refine go_bipush (v := iI 105) dX12_leastOf_12 (by decide) ?_
    refine go_icmp_ne (tgt := 26) dX12_leastOf_14 (by decide) (fun _ => ?_) (fun h => absurd h (by decide))
    refine go_iconst (v := iI 0) dX12_leastOf_26 (by decide) ?_
    refine go_iret rfl rfl dX12_leastOf_27 ?_
    exact hK
  | 0, _, 2, _, hK =>
    refine call_go (by decide) (Nat.le_of_ble_eq_true rfl) (show Go l D cA ad d mX12_leastOf 0 [.int (iI 115), .int (iI 2)] [] σ K from ?_)
    refine go_iload_n dX12_leastOf_0 rfl ?_
    refine go_bipush (v := iI 112) dX12_leastOf_1 (by decide) ?_
    refine go_icmp_ne (tgt := 11) dX12_leastOf_3 (by decide) (fun _ => ?_) (fun h => absurd h (by decide))
    refine go_iload_n dX12_leastOf_11 rfl ?_
    refine go_bipush (v := iI 105) dX12_leastOf_12 (by decide) ?_
    refine go_icmp_ne (tgt := 26) dX12_leastOf_14 (by decide) (fun _ => ?_) (fun h => absurd h (by decide))
    refine go_iconst (v := iI 0) dX12_leastOf_26 (by decide) ?_
    refine go_iret rfl rfl dX12_leastOf_27 ?_
    exact hK
  | 0, _, j + 3, h, _ => exact absurd h (by show ¬ (j + 3 < 3); omega)
  | 1, _, 0, _, hK =>
    refine call_go (by decide) (Nat.le_of_ble_eq_true rfl) (show Go l D cA ad d mX12_leastOf 0 [.int (iI 112), .int (iI 0)] [] σ K from ?_)
    refine go_iload_n dX12_leastOf_0 rfl ?_
    refine go_bipush (v := iI 112) dX12_leastOf_1 (by decide) ?_
    refine go_icmp_ne (tgt := 11) dX12_leastOf_3 (by decide) (fun h => absurd (by decide) h) (fun _ => ?_)
    refine go_iload_n dX12_leastOf_6 rfl ?_
    refine go_iconst (v := iI 1) dX12_leastOf_7 (by decide) ?_
    refine go_icmp_eq (tgt := 22) dX12_leastOf_8 (by decide) (fun h => absurd h (by decide)) (fun _ => ?_)
    refine go_iload_n dX12_leastOf_11 rfl ?_
    refine go_bipush (v := iI 105) dX12_leastOf_12 (by decide) ?_
    refine go_icmp_ne (tgt := 26) dX12_leastOf_14 (by decide) (fun _ => ?_) (fun h => absurd h (by decide))
    refine go_iconst (v := iI 0) dX12_leastOf_26 (by decide) ?_
    refine go_iret rfl rfl dX12_leastOf_27 ?_
    exact hK
  | 1, _, 1, _, hK =>
    refine call_go (by decide) (Nat.le_of_ble_eq_true rfl) (show Go l D cA ad d mX12_leastOf 0 [.int (iI 112), .int (iI 1)] [] σ K from ?_)
    refine go_iload_n dX12_leastOf_0 rfl ?_
    refine go_bipush (v := iI 112) dX12_leastOf_1 (by decide) ?_
    refine go_icmp_ne (tgt := 11) dX12_leastOf_3 (by decide) (fun h => absurd (by decide) h) (fun _ => ?_)
    refine go_iload_n dX12_leastOf_6 rfl ?_
    refine go_iconst (v := iI 1) dX12_leastOf_7 (by decide) ?_
    refine go_icmp_eq (tgt := 22) dX12_leastOf_8 (by decide) (fun _ => ?_) (fun h => absurd (by decide) h)
    refine go_iconst (v := iI 1) dX12_leastOf_22 (by decide) ?_
    refine go_goto (tgt := 27) dX12_leastOf_23 (by decide) ?_
    refine go_iret rfl rfl dX12_leastOf_27 ?_
    exact hK
  | 1, _, 2, _, hK =>
    refine call_go (by decide) (Nat.le_of_ble_eq_true rfl) (show Go l D cA ad d mX12_leastOf 0 [.int (iI 112), .int (iI 2)] [] σ K from ?_)
    refine go_iload_n dX12_leastOf_0 rfl ?_
    refine go_bipush (v := iI 112) dX12_leastOf_1 (by decide) ?_
    refine go_icmp_ne (tgt := 11) dX12_leastOf_3 (by decide) (fun h => absurd (by decide) h) (fun _ => ?_)
    refine go_iload_n dX12_leastOf_6 rfl ?_
    refine go_iconst (v := iI 1) dX12_leastOf_7 (by decide) ?_
    refine go_icmp_eq (tgt := 22) dX12_leastOf_8 (by decide) (fun h => absurd h (by decide)) (fun _ => ?_)
    refine go_iload_n dX12_leastOf_11 rfl ?_
    refine go_bipush (v := iI 105) dX12_leastOf_12 (by decide) ?_
    refine go_icmp_ne (tgt := 26) dX12_leastOf_14 (by decide) (fun _ => ?_) (fun h => absurd h (by decide))
    refine go_iconst (v := iI 0) dX12_leastOf_26 (by decide) ?_
    refine go_iret rfl rfl dX12_leastOf_27 ?_
    exact hK
  | 1, _, 3, _, hK =>
    refine call_go (by decide) (Nat.le_of_ble_eq_true rfl) (show Go l D cA ad d mX12_leastOf 0 [.int (iI 112), .int (iI 3)] [] σ K from ?_)
    refine go_iload_n dX12_leastOf_0 rfl ?_
    refine go_bipush (v := iI 112) dX12_leastOf_1 (by decide) ?_
    refine go_icmp_ne (tgt := 11) dX12_leastOf_3 (by decide) (fun h => absurd (by decide) h) (fun _ => ?_)
    refine go_iload_n dX12_leastOf_6 rfl ?_
    refine go_iconst (v := iI 1) dX12_leastOf_7 (by decide) ?_
    refine go_icmp_eq (tgt := 22) dX12_leastOf_8 (by decide) (fun h => absurd h (by decide)) (fun _ => ?_)
    refine go_iload_n dX12_leastOf_11 rfl ?_
    refine go_bipush (v := iI 105) dX12_leastOf_12 (by decide) ?_
    refine go_icmp_ne (tgt := 26) dX12_leastOf_14 (by decide) (fun _ => ?_) (fun h => absurd h (by decide))
    refine go_iconst (v := iI 0) dX12_leastOf_26 (by decide) ?_
    refine go_iret rfl rfl dX12_leastOf_27 ?_
    exact hK
  | 1, _, 4, _, hK =>
    refine call_go (by decide) (Nat.le_of_ble_eq_true rfl) (show Go l D cA ad d mX12_leastOf 0 [.int (iI 112), .int (iI 4)] [] σ K from ?_)
    refine go_iload_n dX12_leastOf_0 rfl ?_
    refine go_bipush (v := iI 112) dX12_leastOf_1 (by decide) ?_
    refine go_icmp_ne (tgt := 11) dX12_leastOf_3 (by decide) (fun h => absurd (by decide) h) (fun _ => ?_)
    refine go_iload_n dX12_leastOf_6 rfl ?_
    refine go_iconst (v := iI 1) dX12_leastOf_7 (by decide) ?_
    refine go_icmp_eq (tgt := 22) dX12_leastOf_8 (by decide) (fun h => absurd h (by decide)) (fun _ => ?_)
    refine go_iload_n dX12_leastOf_11 rfl ?_
    refine go_bipush (v := iI 105) dX12_leastOf_12 (by decide) ?_
    refine go_icmp_ne (tgt := 26) dX12_leastOf_14 (by decide) (fun _ => ?_) (fun h => absurd h (by decide))
    refine go_iconst (v := iI 0) dX12_leastOf_26 (by decide) ?_
    refine go_iret rfl rfl dX12_leastOf_27 ?_
    exact hK
  | 1, _, 5, _, hK =>
    refine call_go (by decide) (Nat.le_of_ble_eq_true rfl) (show Go l D cA ad d mX12_leastOf 0 [.int (iI 112), .int (iI 5)] [] σ K from ?_)
    refine go_iload_n dX12_leastOf_0 rfl ?_
    refine go_bipush (v := iI 112) dX12_leastOf_1 (by decide) ?_
    refine go_icmp_ne (tgt := 11) dX12_leastOf_3 (by decide) (fun h => absurd (by decide) h) (fun _ => ?_)
    refine go_iload_n dX12_leastOf_6 rfl ?_
    refine go_iconst (v := iI 1) dX12_leastOf_7 (by decide) ?_
    refine go_icmp_eq (tgt := 22) dX12_leastOf_8 (by decide) (fun h => absurd h (by decide)) (fun _ => ?_)
    refine go_iload_n dX12_leastOf_11 rfl ?_
    refine go_bipush (v := iI 105) dX12_leastOf_12 (by decide) ?_
    refine go_icmp_ne (tgt := 26) dX12_leastOf_14 (by decide) (fun _ => ?_) (fun h => absurd h (by decide))
    refine go_iconst (v := iI 0) dX12_leastOf_26 (by decide) ?_
    refine go_iret rfl rfl dX12_leastOf_27 ?_
    exact hK
  | 1, _, 6, _, hK =>
    refine call_go (by decide) (Nat.le_of_ble_eq_true rfl) (show Go l D cA ad d mX12_leastOf 0 [.int (iI 112), .int (iI 6)] [] σ K from ?_)
    refine go_iload_n dX12_leastOf_0 rfl ?_
    refine go_bipush (v := iI 112) dX12_leastOf_1 (by decide) ?_
    refine go_icmp_ne (tgt := 11) dX12_leastOf_3 (by decide) (fun h => absurd (by decide) h) (fun _ => ?_)
    refine go_iload_n dX12_leastOf_6 rfl ?_
    refine go_iconst (v := iI 1) dX12_leastOf_7 (by decide) ?_
    refine go_icmp_eq (tgt := 22) dX12_leastOf_8 (by decide) (fun h => absurd h (by decide)) (fun _ => ?_)
    refine go_iload_n dX12_leastOf_11 rfl ?_
    refine go_bipush (v := iI 105) dX12_leastOf_12 (by decide) ?_
    refine go_icmp_ne (tgt := 26) dX12_leastOf_14 (by decide) (fun _ => ?_) (fun h => absurd h (by decide))
    refine go_iconst (v := iI 0) dX12_leastOf_26 (by decide) ?_
    refine go_iret rfl rfl dX12_leastOf_27 ?_
    exact hK
  | 1, _, 7, _, hK =>
    refine call_go (by decide) (Nat.le_of_ble_eq_true rfl) (show Go l D cA ad d mX12_leastOf 0 [.int (iI 112), .int (iI 7)] [] σ K from ?_)
    refine go_iload_n dX12_leastOf_0 rfl ?_
    refine go_bipush (v := iI 112) dX12_leastOf_1 (by decide) ?_
    refine go_icmp_ne (tgt := 11) dX12_leastOf_3 (by decide) (fun h => absurd (by decide) h) (fun _ => ?_)
    refine go_iload_n dX12_leastOf_6 rfl ?_
    refine go_iconst (v := iI 1) dX12_leastOf_7 (by decide) ?_
    refine go_icmp_eq (tgt := 22) dX12_leastOf_8 (by decide) (fun h => absurd h (by decide)) (fun _ => ?_)
    refine go_iload_n dX12_leastOf_11 rfl ?_
    refine go_bipush (v := iI 105) dX12_leastOf_12 (by decide) ?_
    refine go_icmp_ne (tgt := 26) dX12_leastOf_14 (by decide) (fun _ => ?_) (fun h => absurd h (by decide))
    refine go_iconst (v := iI 0) dX12_leastOf_26 (by decide) ?_
    refine go_iret rfl rfl dX12_leastOf_27 ?_
    exact hK
  | 1, _, 8, _, hK =>
    refine call_go (by decide) (Nat.le_of_ble_eq_true rfl) (show Go l D cA ad d mX12_leastOf 0 [.int (iI 112), .int (iI 8)] [] σ K from ?_)
    refine go_iload_n dX12_leastOf_0 rfl ?_
    refine go_bipush (v := iI 112) dX12_leastOf_1 (by decide) ?_
    refine go_icmp_ne (tgt := 11) dX12_leastOf_3 (by decide) (fun h => absurd (by decide) h) (fun _ => ?_)
    refine go_iload_n dX12_leastOf_6 rfl ?_
    refine go_iconst (v := iI 1) dX12_leastOf_7 (by decide) ?_
    refine go_icmp_eq (tgt := 22) dX12_leastOf_8 (by decide) (fun h => absurd h (by decide)) (fun _ => ?_)
    refine go_iload_n dX12_leastOf_11 rfl ?_
    refine go_bipush (v := iI 105) dX12_leastOf_12 (by decide) ?_
    refine go_icmp_ne (tgt := 26) dX12_leastOf_14 (by decide) (fun _ => ?_) (fun h => absurd h (by decide))
    refine go_iconst (v := iI 0) dX12_leastOf_26 (by decide) ?_
    refine go_iret rfl rfl dX12_leastOf_27 ?_
    exact hK
  | 1, _, j + 9, h, _ => exact absurd h (by show ¬ (j + 9 < 9); omega)
  | 2, _, 0, _, hK =>
    refine call_go (by decide) (Nat.le_of_ble_eq_true rfl) (show Go l D cA ad d mX12_leastOf 0 [.int (iI 105), .int (iI 0)] [] σ K from ?_)
    refine go_iload_n dX12_leastOf_0 rfl ?_
    refine go_bipush (v := iI 112) dX12_leastOf_1 (by decide) ?_
    refine go_icmp_ne (tgt := 11) dX12_leastOf_3 (by decide) (fun _ => ?_) (fun h => absurd h (by decide))
    refine go_iload_n dX12_leastOf_11 rfl ?_
    refine go_bipush (v := iI 105) dX12_leastOf_12 (by decide) ?_
    refine go_icmp_ne (tgt := 26) dX12_leastOf_14 (by decide) (fun h => absurd (by decide) h) (fun _ => ?_)
    refine go_iload_n dX12_leastOf_17 rfl ?_
    refine go_iconst (v := iI 2) dX12_leastOf_18 (by decide) ?_
    refine go_icmp_ne (tgt := 26) dX12_leastOf_19 (by decide) (fun _ => ?_) (fun h => absurd h (by decide))
    refine go_iconst (v := iI 0) dX12_leastOf_26 (by decide) ?_
    refine go_iret rfl rfl dX12_leastOf_27 ?_
    exact hK
  | 2, _, 1, _, hK =>
    refine call_go (by decide) (Nat.le_of_ble_eq_true rfl) (show Go l D cA ad d mX12_leastOf 0 [.int (iI 105), .int (iI 1)] [] σ K from ?_)
    refine go_iload_n dX12_leastOf_0 rfl ?_
    refine go_bipush (v := iI 112) dX12_leastOf_1 (by decide) ?_
    refine go_icmp_ne (tgt := 11) dX12_leastOf_3 (by decide) (fun _ => ?_) (fun h => absurd h (by decide))
    refine go_iload_n dX12_leastOf_11 rfl ?_
    refine go_bipush (v := iI 105) dX12_leastOf_12 (by decide) ?_
    refine go_icmp_ne (tgt := 26) dX12_leastOf_14 (by decide) (fun h => absurd (by decide) h) (fun _ => ?_)
    refine go_iload_n dX12_leastOf_17 rfl ?_
    refine go_iconst (v := iI 2) dX12_leastOf_18 (by decide) ?_
    refine go_icmp_ne (tgt := 26) dX12_leastOf_19 (by decide) (fun _ => ?_) (fun h => absurd h (by decide))
    refine go_iconst (v := iI 0) dX12_leastOf_26 (by decide) ?_
    refine go_iret rfl rfl dX12_leastOf_27 ?_
    exact hK
  | 2, _, 2, _, hK =>
    refine call_go (by decide) (Nat.le_of_ble_eq_true rfl) (show Go l D cA ad d mX12_leastOf 0 [.int (iI 105), .int (iI 2)] [] σ K from ?_)
    refine go_iload_n dX12_leastOf_0 rfl ?_
    refine go_bipush (v := iI 112) dX12_leastOf_1 (by decide) ?_
    refine go_icmp_ne (tgt := 11) dX12_leastOf_3 (by decide) (fun _ => ?_) (fun h => absurd h (by decide))
    refine go_iload_n dX12_leastOf_11 rfl ?_
    refine go_bipush (v := iI 105) dX12_leastOf_12 (by decide) ?_
    refine go_icmp_ne (tgt := 26) dX12_leastOf_14 (by decide) (fun h => absurd (by decide) h) (fun _ => ?_)
    refine go_iload_n dX12_leastOf_17 rfl ?_
    refine go_iconst (v := iI 2) dX12_leastOf_18 (by decide) ?_
    refine go_icmp_ne (tgt := 26) dX12_leastOf_19 (by decide) (fun h => absurd (by decide) h) (fun _ => ?_)
    refine go_iconst (v := iI 1) dX12_leastOf_22 (by decide) ?_
    refine go_goto (tgt := 27) dX12_leastOf_23 (by decide) ?_
    refine go_iret rfl rfl dX12_leastOf_27 ?_
    exact hK
  | 2, _, 3, _, hK =>
    refine call_go (by decide) (Nat.le_of_ble_eq_true rfl) (show Go l D cA ad d mX12_leastOf 0 [.int (iI 105), .int (iI 3)] [] σ K from ?_)
    refine go_iload_n dX12_leastOf_0 rfl ?_
    refine go_bipush (v := iI 112) dX12_leastOf_1 (by decide) ?_
    refine go_icmp_ne (tgt := 11) dX12_leastOf_3 (by decide) (fun _ => ?_) (fun h => absurd h (by decide))
    refine go_iload_n dX12_leastOf_11 rfl ?_
    refine go_bipush (v := iI 105) dX12_leastOf_12 (by decide) ?_
    refine go_icmp_ne (tgt := 26) dX12_leastOf_14 (by decide) (fun h => absurd (by decide) h) (fun _ => ?_)
    refine go_iload_n dX12_leastOf_17 rfl ?_
    refine go_iconst (v := iI 2) dX12_leastOf_18 (by decide) ?_
    refine go_icmp_ne (tgt := 26) dX12_leastOf_19 (by decide) (fun _ => ?_) (fun h => absurd h (by decide))
    refine go_iconst (v := iI 0) dX12_leastOf_26 (by decide) ?_
    refine go_iret rfl rfl dX12_leastOf_27 ?_
    exact hK
  | 2, _, 4, _, hK =>
    refine call_go (by decide) (Nat.le_of_ble_eq_true rfl) (show Go l D cA ad d mX12_leastOf 0 [.int (iI 105), .int (iI 4)] [] σ K from ?_)
    refine go_iload_n dX12_leastOf_0 rfl ?_
    refine go_bipush (v := iI 112) dX12_leastOf_1 (by decide) ?_
    refine go_icmp_ne (tgt := 11) dX12_leastOf_3 (by decide) (fun _ => ?_) (fun h => absurd h (by decide))
    refine go_iload_n dX12_leastOf_11 rfl ?_
    refine go_bipush (v := iI 105) dX12_leastOf_12 (by decide) ?_
    refine go_icmp_ne (tgt := 26) dX12_leastOf_14 (by decide) (fun h => absurd (by decide) h) (fun _ => ?_)
    refine go_iload_n dX12_leastOf_17 rfl ?_
    refine go_iconst (v := iI 2) dX12_leastOf_18 (by decide) ?_
    refine go_icmp_ne (tgt := 26) dX12_leastOf_19 (by decide) (fun _ => ?_) (fun h => absurd h (by decide))
    refine go_iconst (v := iI 0) dX12_leastOf_26 (by decide) ?_
    refine go_iret rfl rfl dX12_leastOf_27 ?_
    exact hK
  | 2, _, j + 5, h, _ => exact absurd h (by show ¬ (j + 5 < 5); omega)
  | κ + 3, h, _, _, _ => omega
theorem ct_X12_mostOf {l : Launch} {D : va_G} {cA ad : Nat → Nat} {d : Nat} {σ : AS} {K : Option Value → AS → Prop} {κ j : Nat} (hκ : κ < 3) (hj : j < kN κ) (hK : K (some (.int (iI (hiK κ j)))) σ) : Call l D cA ad d mX12_mostOf [.int (iI (kc κ)), .int (iI j)] σ K := by
  match κ, hκ, j, hj, hK with
  | 0, _, 0, _, hK =>
    refine call_go (by decide) (Nat.le_of_ble_eq_true rfl) (show Go l D cA ad d mX12_mostOf 0 [.int (iI 115), .int (iI 0)] [] σ K from ?_)
    refine go_iload_n dX12_mostOf_0 rfl ?_
    refine go_bipush (v := iI 115) dX12_mostOf_1 (by decide) ?_
    refine go_icmp_ne (tgt := 9) dX12_mostOf_3 (by decide) (fun h => absurd (by decide) h) (fun _ => ?_)
    refine go_bipush (v := iI 9) dX12_mostOf_6 (by decide) ?_
    refine go_iret rfl rfl dX12_mostOf_8 ?_
    exact hK
  | 0, _, 1, _, hK =>
    refine call_go (by decide) (Nat.le_of_ble_eq_true rfl) (show Go l D cA ad d mX12_mostOf 0 [.int (iI 115), .int (iI 1)] [] σ K from ?_)
    refine go_iload_n dX12_mostOf_0 rfl ?_
    refine go_bipush (v := iI 115) dX12_mostOf_1 (by decide) ?_
    refine go_icmp_ne (tgt := 9) dX12_mostOf_3 (by decide) (fun h => absurd (by decide) h) (fun _ => ?_)
    refine go_bipush (v := iI 9) dX12_mostOf_6 (by decide) ?_
    refine go_iret rfl rfl dX12_mostOf_8 ?_
    exact hK
  | 0, _, 2, _, hK =>
    refine call_go (by decide) (Nat.le_of_ble_eq_true rfl) (show Go l D cA ad d mX12_mostOf 0 [.int (iI 115), .int (iI 2)] [] σ K from ?_)
    refine go_iload_n dX12_mostOf_0 rfl ?_
    refine go_bipush (v := iI 115) dX12_mostOf_1 (by decide) ?_
    refine go_icmp_ne (tgt := 9) dX12_mostOf_3 (by decide) (fun h => absurd (by decide) h) (fun _ => ?_)
    refine go_bipush (v := iI 9) dX12_mostOf_6 (by decide) ?_
    refine go_iret rfl rfl dX12_mostOf_8 ?_
    exact hK
  | 0, _, j + 3, h, _ => exact absurd h (by show ¬ (j + 3 < 3); omega)
  | 1, _, 0, _, hK =>
    refine call_go (by decide) (Nat.le_of_ble_eq_true rfl) (show Go l D cA ad d mX12_mostOf 0 [.int (iI 112), .int (iI 0)] [] σ K from ?_)
    refine go_iload_n dX12_mostOf_0 rfl ?_
    refine go_bipush (v := iI 115) dX12_mostOf_1 (by decide) ?_
    refine go_icmp_ne (tgt := 9) dX12_mostOf_3 (by decide) (fun _ => ?_) (fun h => absurd h (by decide))
    refine go_iload_n dX12_mostOf_9 rfl ?_
    refine go_bipush (v := iI 112) dX12_mostOf_10 (by decide) ?_
    refine go_icmp_ne (tgt := 39) dX12_mostOf_12 (by decide) (fun h => absurd (by decide) h) (fun _ => ?_)
    refine go_iload_n dX12_mostOf_15 rfl ?_
    refine go_iconst (v := iI 2) dX12_mostOf_16 (by decide) ?_
    refine go_icmp_eq (tgt := 31) dX12_mostOf_17 (by decide) (fun h => absurd h (by decide)) (fun _ => ?_)
    refine go_iload_n dX12_mostOf_20 rfl ?_
    refine go_iconst (v := iI 4) dX12_mostOf_21 (by decide) ?_
    refine go_icmp_eq (tgt := 31) dX12_mostOf_22 (by decide) (fun h => absurd h (by decide)) (fun _ => ?_)
    refine go_iload_n dX12_mostOf_25 rfl ?_
    refine go_bipush (v := iI 8) dX12_mostOf_26 (by decide) ?_
    refine go_icmp_ne (tgt := 36) dX12_mostOf_28 (by decide) (fun _ => ?_) (fun h => absurd h (by decide))
    refine go_bipush (v := iI 99) dX12_mostOf_36 (by decide) ?_
    refine go_iret rfl rfl dX12_mostOf_38 ?_
    exact hK
  | 1, _, 1, _, hK =>
    refine call_go (by decide) (Nat.le_of_ble_eq_true rfl) (show Go l D cA ad d mX12_mostOf 0 [.int (iI 112), .int (iI 1)] [] σ K from ?_)
    refine go_iload_n dX12_mostOf_0 rfl ?_
    refine go_bipush (v := iI 115) dX12_mostOf_1 (by decide) ?_
    refine go_icmp_ne (tgt := 9) dX12_mostOf_3 (by decide) (fun _ => ?_) (fun h => absurd h (by decide))
    refine go_iload_n dX12_mostOf_9 rfl ?_
    refine go_bipush (v := iI 112) dX12_mostOf_10 (by decide) ?_
    refine go_icmp_ne (tgt := 39) dX12_mostOf_12 (by decide) (fun h => absurd (by decide) h) (fun _ => ?_)
    refine go_iload_n dX12_mostOf_15 rfl ?_
    refine go_iconst (v := iI 2) dX12_mostOf_16 (by decide) ?_
    refine go_icmp_eq (tgt := 31) dX12_mostOf_17 (by decide) (fun h => absurd h (by decide)) (fun _ => ?_)
    refine go_iload_n dX12_mostOf_20 rfl ?_
    refine go_iconst (v := iI 4) dX12_mostOf_21 (by decide) ?_
    refine go_icmp_eq (tgt := 31) dX12_mostOf_22 (by decide) (fun h => absurd h (by decide)) (fun _ => ?_)
    refine go_iload_n dX12_mostOf_25 rfl ?_
    refine go_bipush (v := iI 8) dX12_mostOf_26 (by decide) ?_
    refine go_icmp_ne (tgt := 36) dX12_mostOf_28 (by decide) (fun _ => ?_) (fun h => absurd h (by decide))
    refine go_bipush (v := iI 99) dX12_mostOf_36 (by decide) ?_
    refine go_iret rfl rfl dX12_mostOf_38 ?_
    exact hK
  | 1, _, 2, _, hK =>
    refine call_go (by decide) (Nat.le_of_ble_eq_true rfl) (show Go l D cA ad d mX12_mostOf 0 [.int (iI 112), .int (iI 2)] [] σ K from ?_)
    refine go_iload_n dX12_mostOf_0 rfl ?_
    refine go_bipush (v := iI 115) dX12_mostOf_1 (by decide) ?_
    refine go_icmp_ne (tgt := 9) dX12_mostOf_3 (by decide) (fun _ => ?_) (fun h => absurd h (by decide))
    refine go_iload_n dX12_mostOf_9 rfl ?_
    refine go_bipush (v := iI 112) dX12_mostOf_10 (by decide) ?_
    refine go_icmp_ne (tgt := 39) dX12_mostOf_12 (by decide) (fun h => absurd (by decide) h) (fun _ => ?_)
    refine go_iload_n dX12_mostOf_15 rfl ?_
    refine go_iconst (v := iI 2) dX12_mostOf_16 (by decide) ?_
    refine go_icmp_eq (tgt := 31) dX12_mostOf_17 (by decide) (fun _ => ?_) (fun h => absurd (by decide) h)
    refine go_bipush (v := iI 9) dX12_mostOf_31 (by decide) ?_
    refine go_goto (tgt := 38) dX12_mostOf_33 (by decide) ?_
    refine go_iret rfl rfl dX12_mostOf_38 ?_
    exact hK
  | 1, _, 3, _, hK =>
    refine call_go (by decide) (Nat.le_of_ble_eq_true rfl) (show Go l D cA ad d mX12_mostOf 0 [.int (iI 112), .int (iI 3)] [] σ K from ?_)
    refine go_iload_n dX12_mostOf_0 rfl ?_
    refine go_bipush (v := iI 115) dX12_mostOf_1 (by decide) ?_
    refine go_icmp_ne (tgt := 9) dX12_mostOf_3 (by decide) (fun _ => ?_) (fun h => absurd h (by decide))
    refine go_iload_n dX12_mostOf_9 rfl ?_
    refine go_bipush (v := iI 112) dX12_mostOf_10 (by decide) ?_
    refine go_icmp_ne (tgt := 39) dX12_mostOf_12 (by decide) (fun h => absurd (by decide) h) (fun _ => ?_)
    refine go_iload_n dX12_mostOf_15 rfl ?_
    refine go_iconst (v := iI 2) dX12_mostOf_16 (by decide) ?_
    refine go_icmp_eq (tgt := 31) dX12_mostOf_17 (by decide) (fun h => absurd h (by decide)) (fun _ => ?_)
    refine go_iload_n dX12_mostOf_20 rfl ?_
    refine go_iconst (v := iI 4) dX12_mostOf_21 (by decide) ?_
    refine go_icmp_eq (tgt := 31) dX12_mostOf_22 (by decide) (fun h => absurd h (by decide)) (fun _ => ?_)
    refine go_iload_n dX12_mostOf_25 rfl ?_
    refine go_bipush (v := iI 8) dX12_mostOf_26 (by decide) ?_
    refine go_icmp_ne (tgt := 36) dX12_mostOf_28 (by decide) (fun _ => ?_) (fun h => absurd h (by decide))
    refine go_bipush (v := iI 99) dX12_mostOf_36 (by decide) ?_
    refine go_iret rfl rfl dX12_mostOf_38 ?_
    exact hK
  | 1, _, 4, _, hK =>
    refine call_go (by decide) (Nat.le_of_ble_eq_true rfl) (show Go l D cA ad d mX12_mostOf 0 [.int (iI 112), .int (iI 4)] [] σ K from ?_)
    refine go_iload_n dX12_mostOf_0 rfl ?_
    refine go_bipush (v := iI 115) dX12_mostOf_1 (by decide) ?_
    refine go_icmp_ne (tgt := 9) dX12_mostOf_3 (by decide) (fun _ => ?_) (fun h => absurd h (by decide))
    refine go_iload_n dX12_mostOf_9 rfl ?_
    refine go_bipush (v := iI 112) dX12_mostOf_10 (by decide) ?_
    refine go_icmp_ne (tgt := 39) dX12_mostOf_12 (by decide) (fun h => absurd (by decide) h) (fun _ => ?_)
    refine go_iload_n dX12_mostOf_15 rfl ?_
    refine go_iconst (v := iI 2) dX12_mostOf_16 (by decide) ?_
    refine go_icmp_eq (tgt := 31) dX12_mostOf_17 (by decide) (fun h => absurd h (by decide)) (fun _ => ?_)
    refine go_iload_n dX12_mostOf_20 rfl ?_
    refine go_iconst (v := iI 4) dX12_mostOf_21 (by decide) ?_
    refine go_icmp_eq (tgt := 31) dX12_mostOf_22 (by decide) (fun _ => ?_) (fun h => absurd (by decide) h)
    refine go_bipush (v := iI 9) dX12_mostOf_31 (by decide) ?_
    refine go_goto (tgt := 38) dX12_mostOf_33 (by decide) ?_
    refine go_iret rfl rfl dX12_mostOf_38 ?_
    exact hK
  | 1, _, 5, _, hK =>
    refine call_go (by decide) (Nat.le_of_ble_eq_true rfl) (show Go l D cA ad d mX12_mostOf 0 [.int (iI 112), .int (iI 5)] [] σ K from ?_)
    refine go_iload_n dX12_mostOf_0 rfl ?_
    refine go_bipush (v := iI 115) dX12_mostOf_1 (by decide) ?_
    refine go_icmp_ne (tgt := 9) dX12_mostOf_3 (by decide) (fun _ => ?_) (fun h => absurd h (by decide))
    refine go_iload_n dX12_mostOf_9 rfl ?_
    refine go_bipush (v := iI 112) dX12_mostOf_10 (by decide) ?_
    refine go_icmp_ne (tgt := 39) dX12_mostOf_12 (by decide) (fun h => absurd (by decide) h) (fun _ => ?_)
    refine go_iload_n dX12_mostOf_15 rfl ?_
    refine go_iconst (v := iI 2) dX12_mostOf_16 (by decide) ?_
    refine go_icmp_eq (tgt := 31) dX12_mostOf_17 (by decide) (fun h => absurd h (by decide)) (fun _ => ?_)
    refine go_iload_n dX12_mostOf_20 rfl ?_
    refine go_iconst (v := iI 4) dX12_mostOf_21 (by decide) ?_
    refine go_icmp_eq (tgt := 31) dX12_mostOf_22 (by decide) (fun h => absurd h (by decide)) (fun _ => ?_)
    refine go_iload_n dX12_mostOf_25 rfl ?_
    refine go_bipush (v := iI 8) dX12_mostOf_26 (by decide) ?_
    refine go_icmp_ne (tgt := 36) dX12_mostOf_28 (by decide) (fun _ => ?_) (fun h => absurd h (by decide))
    refine go_bipush (v := iI 99) dX12_mostOf_36 (by decide) ?_
    refine go_iret rfl rfl dX12_mostOf_38 ?_
    exact hK
  | 1, _, 6, _, hK =>
    refine call_go (by decide) (Nat.le_of_ble_eq_true rfl) (show Go l D cA ad d mX12_mostOf 0 [.int (iI 112), .int (iI 6)] [] σ K from ?_)
    refine go_iload_n dX12_mostOf_0 rfl ?_
    refine go_bipush (v := iI 115) dX12_mostOf_1 (by decide) ?_
    refine go_icmp_ne (tgt := 9) dX12_mostOf_3 (by decide) (fun _ => ?_) (fun h => absurd h (by decide))
    refine go_iload_n dX12_mostOf_9 rfl ?_
    refine go_bipush (v := iI 112) dX12_mostOf_10 (by decide) ?_
    refine go_icmp_ne (tgt := 39) dX12_mostOf_12 (by decide) (fun h => absurd (by decide) h) (fun _ => ?_)
    refine go_iload_n dX12_mostOf_15 rfl ?_
    refine go_iconst (v := iI 2) dX12_mostOf_16 (by decide) ?_
    refine go_icmp_eq (tgt := 31) dX12_mostOf_17 (by decide) (fun h => absurd h (by decide)) (fun _ => ?_)
    refine go_iload_n dX12_mostOf_20 rfl ?_
    refine go_iconst (v := iI 4) dX12_mostOf_21 (by decide) ?_
    refine go_icmp_eq (tgt := 31) dX12_mostOf_22 (by decide) (fun h => absurd h (by decide)) (fun _ => ?_)
    refine go_iload_n dX12_mostOf_25 rfl ?_
    refine go_bipush (v := iI 8) dX12_mostOf_26 (by decide) ?_
    refine go_icmp_ne (tgt := 36) dX12_mostOf_28 (by decide) (fun _ => ?_) (fun h => absurd h (by decide))
    refine go_bipush (v := iI 99) dX12_mostOf_36 (by decide) ?_
    refine go_iret rfl rfl dX12_mostOf_38 ?_
    exact hK
  | 1, _, 7, _, hK =>
    refine call_go (by decide) (Nat.le_of_ble_eq_true rfl) (show Go l D cA ad d mX12_mostOf 0 [.int (iI 112), .int (iI 7)] [] σ K from ?_)
    refine go_iload_n dX12_mostOf_0 rfl ?_
    refine go_bipush (v := iI 115) dX12_mostOf_1 (by decide) ?_
    refine go_icmp_ne (tgt := 9) dX12_mostOf_3 (by decide) (fun _ => ?_) (fun h => absurd h (by decide))
    refine go_iload_n dX12_mostOf_9 rfl ?_
    refine go_bipush (v := iI 112) dX12_mostOf_10 (by decide) ?_
    refine go_icmp_ne (tgt := 39) dX12_mostOf_12 (by decide) (fun h => absurd (by decide) h) (fun _ => ?_)
    refine go_iload_n dX12_mostOf_15 rfl ?_
    refine go_iconst (v := iI 2) dX12_mostOf_16 (by decide) ?_
    refine go_icmp_eq (tgt := 31) dX12_mostOf_17 (by decide) (fun h => absurd h (by decide)) (fun _ => ?_)
    refine go_iload_n dX12_mostOf_20 rfl ?_
    refine go_iconst (v := iI 4) dX12_mostOf_21 (by decide) ?_
    refine go_icmp_eq (tgt := 31) dX12_mostOf_22 (by decide) (fun h => absurd h (by decide)) (fun _ => ?_)
    refine go_iload_n dX12_mostOf_25 rfl ?_
    refine go_bipush (v := iI 8) dX12_mostOf_26 (by decide) ?_
    refine go_icmp_ne (tgt := 36) dX12_mostOf_28 (by decide) (fun _ => ?_) (fun h => absurd h (by decide))
    refine go_bipush (v := iI 99) dX12_mostOf_36 (by decide) ?_
    refine go_iret rfl rfl dX12_mostOf_38 ?_
    exact hK
  | 1, _, 8, _, hK =>
    refine call_go (by decide) (Nat.le_of_ble_eq_true rfl) (show Go l D cA ad d mX12_mostOf 0 [.int (iI 112), .int (iI 8)] [] σ K from ?_)
    refine go_iload_n dX12_mostOf_0 rfl ?_
    refine go_bipush (v := iI 115) dX12_mostOf_1 (by decide) ?_
    refine go_icmp_ne (tgt := 9) dX12_mostOf_3 (by decide) (fun _ => ?_) (fun h => absurd h (by decide))
    refine go_iload_n dX12_mostOf_9 rfl ?_
    refine go_bipush (v := iI 112) dX12_mostOf_10 (by decide) ?_
    refine go_icmp_ne (tgt := 39) dX12_mostOf_12 (by decide) (fun h => absurd (by decide) h) (fun _ => ?_)
    refine go_iload_n dX12_mostOf_15 rfl ?_
    refine go_iconst (v := iI 2) dX12_mostOf_16 (by decide) ?_
    refine go_icmp_eq (tgt := 31) dX12_mostOf_17 (by decide) (fun h => absurd h (by decide)) (fun _ => ?_)
    refine go_iload_n dX12_mostOf_20 rfl ?_
    refine go_iconst (v := iI 4) dX12_mostOf_21 (by decide) ?_
    refine go_icmp_eq (tgt := 31) dX12_mostOf_22 (by decide) (fun h => absurd h (by decide)) (fun _ => ?_)
    refine go_iload_n dX12_mostOf_25 rfl ?_
    refine go_bipush (v := iI 8) dX12_mostOf_26 (by decide) ?_
    refine go_icmp_ne (tgt := 36) dX12_mostOf_28 (by decide) (fun h => absurd (by decide) h) (fun _ => ?_)
    refine go_bipush (v := iI 9) dX12_mostOf_31 (by decide) ?_
    refine go_goto (tgt := 38) dX12_mostOf_33 (by decide) ?_
    refine go_iret rfl rfl dX12_mostOf_38 ?_
    exact hK
  | 1, _, j + 9, h, _ => exact absurd h (by show ¬ (j + 9 < 9); omega)
  | 2, _, 0, _, hK =>
    refine call_go (by decide) (Nat.le_of_ble_eq_true rfl) (show Go l D cA ad d mX12_mostOf 0 [.int (iI 105), .int (iI 0)] [] σ K from ?_)
    refine go_iload_n dX12_mostOf_0 rfl ?_
    refine go_bipush (v := iI 115) dX12_mostOf_1 (by decide) ?_
    refine go_icmp_ne (tgt := 9) dX12_mostOf_3 (by decide) (fun _ => ?_) (fun h => absurd h (by decide))
    refine go_iload_n dX12_mostOf_9 rfl ?_
    refine go_bipush (v := iI 112) dX12_mostOf_10 (by decide) ?_
    refine go_icmp_ne (tgt := 39) dX12_mostOf_12 (by decide) (fun _ => ?_) (fun h => absurd h (by decide))
    refine go_iload_n dX12_mostOf_39 rfl ?_
    refine go_iconst (v := iI 2) dX12_mostOf_40 (by decide) ?_
    refine go_icmp_ge (tgt := 49) dX12_mostOf_41 (by decide) (fun h => absurd h (by decide)) (fun _ => ?_)
    refine go_bipush (v := iI 6) dX12_mostOf_44 (by decide) ?_
    refine go_goto (tgt := 70) dX12_mostOf_46 (by decide) ?_
    refine go_iret rfl rfl dX12_mostOf_70 ?_
    exact hK
  | 2, _, 1, _, hK =>
    refine call_go (by decide) (Nat.le_of_ble_eq_true rfl) (show Go l D cA ad d mX12_mostOf 0 [.int (iI 105), .int (iI 1)] [] σ K from ?_)
    refine go_iload_n dX12_mostOf_0 rfl ?_
    refine go_bipush (v := iI 115) dX12_mostOf_1 (by decide) ?_
    refine go_icmp_ne (tgt := 9) dX12_mostOf_3 (by decide) (fun _ => ?_) (fun h => absurd h (by decide))
    refine go_iload_n dX12_mostOf_9 rfl ?_
    refine go_bipush (v := iI 112) dX12_mostOf_10 (by decide) ?_
    refine go_icmp_ne (tgt := 39) dX12_mostOf_12 (by decide) (fun _ => ?_) (fun h => absurd h (by decide))
    refine go_iload_n dX12_mostOf_39 rfl ?_
    refine go_iconst (v := iI 2) dX12_mostOf_40 (by decide) ?_
    refine go_icmp_ge (tgt := 49) dX12_mostOf_41 (by decide) (fun h => absurd h (by decide)) (fun _ => ?_)
    refine go_bipush (v := iI 6) dX12_mostOf_44 (by decide) ?_
    refine go_goto (tgt := 70) dX12_mostOf_46 (by decide) ?_
    refine go_iret rfl rfl dX12_mostOf_70 ?_
    exact hK
  | 2, _, 2, _, hK =>
    refine call_go (by decide) (Nat.le_of_ble_eq_true rfl) (show Go l D cA ad d mX12_mostOf 0 [.int (iI 105), .int (iI 2)] [] σ K from ?_)
    refine go_iload_n dX12_mostOf_0 rfl ?_
    refine go_bipush (v := iI 115) dX12_mostOf_1 (by decide) ?_
    refine go_icmp_ne (tgt := 9) dX12_mostOf_3 (by decide) (fun _ => ?_) (fun h => absurd h (by decide))
    refine go_iload_n dX12_mostOf_9 rfl ?_
    refine go_bipush (v := iI 112) dX12_mostOf_10 (by decide) ?_
    refine go_icmp_ne (tgt := 39) dX12_mostOf_12 (by decide) (fun _ => ?_) (fun h => absurd h (by decide))
    refine go_iload_n dX12_mostOf_39 rfl ?_
    refine go_iconst (v := iI 2) dX12_mostOf_40 (by decide) ?_
    refine go_icmp_ge (tgt := 49) dX12_mostOf_41 (by decide) (fun _ => ?_) (fun h => absurd (by decide) h)
    refine go_iload_n dX12_mostOf_49 rfl ?_
    refine go_iconst (v := iI 2) dX12_mostOf_50 (by decide) ?_
    refine go_icmp_ne (tgt := 59) dX12_mostOf_51 (by decide) (fun h => absurd (by decide) h) (fun _ => ?_)
    refine go_bipush (v := iI 9) dX12_mostOf_54 (by decide) ?_
    refine go_goto (tgt := 70) dX12_mostOf_56 (by decide) ?_
    refine go_iret rfl rfl dX12_mostOf_70 ?_
    exact hK
  | 2, _, 3, _, hK =>
    refine call_go (by decide) (Nat.le_of_ble_eq_true rfl) (show Go l D cA ad d mX12_mostOf 0 [.int (iI 105), .int (iI 3)] [] σ K from ?_)
    refine go_iload_n dX12_mostOf_0 rfl ?_
    refine go_bipush (v := iI 115) dX12_mostOf_1 (by decide) ?_
    refine go_icmp_ne (tgt := 9) dX12_mostOf_3 (by decide) (fun _ => ?_) (fun h => absurd h (by decide))
    refine go_iload_n dX12_mostOf_9 rfl ?_
    refine go_bipush (v := iI 112) dX12_mostOf_10 (by decide) ?_
    refine go_icmp_ne (tgt := 39) dX12_mostOf_12 (by decide) (fun _ => ?_) (fun h => absurd h (by decide))
    refine go_iload_n dX12_mostOf_39 rfl ?_
    refine go_iconst (v := iI 2) dX12_mostOf_40 (by decide) ?_
    refine go_icmp_ge (tgt := 49) dX12_mostOf_41 (by decide) (fun _ => ?_) (fun h => absurd (by decide) h)
    refine go_iload_n dX12_mostOf_49 rfl ?_
    refine go_iconst (v := iI 2) dX12_mostOf_50 (by decide) ?_
    refine go_icmp_ne (tgt := 59) dX12_mostOf_51 (by decide) (fun _ => ?_) (fun h => absurd h (by decide))
    refine go_iload_n dX12_mostOf_59 rfl ?_
    refine go_iconst (v := iI 3) dX12_mostOf_60 (by decide) ?_
    refine go_icmp_ne (tgt := 69) dX12_mostOf_61 (by decide) (fun h => absurd (by decide) h) (fun _ => ?_)
    refine go_bipush (v := iI 99) dX12_mostOf_64 (by decide) ?_
    refine go_goto (tgt := 70) dX12_mostOf_66 (by decide) ?_
    refine go_iret rfl rfl dX12_mostOf_70 ?_
    exact hK
  | 2, _, 4, _, hK =>
    refine call_go (by decide) (Nat.le_of_ble_eq_true rfl) (show Go l D cA ad d mX12_mostOf 0 [.int (iI 105), .int (iI 4)] [] σ K from ?_)
    refine go_iload_n dX12_mostOf_0 rfl ?_
    refine go_bipush (v := iI 115) dX12_mostOf_1 (by decide) ?_
    refine go_icmp_ne (tgt := 9) dX12_mostOf_3 (by decide) (fun _ => ?_) (fun h => absurd h (by decide))
    refine go_iload_n dX12_mostOf_9 rfl ?_
    refine go_bipush (v := iI 112) dX12_mostOf_10 (by decide) ?_
    refine go_icmp_ne (tgt := 39) dX12_mostOf_12 (by decide) (fun _ => ?_) (fun h => absurd h (by decide))
    refine go_iload_n dX12_mostOf_39 rfl ?_
    refine go_iconst (v := iI 2) dX12_mostOf_40 (by decide) ?_
    refine go_icmp_ge (tgt := 49) dX12_mostOf_41 (by decide) (fun _ => ?_) (fun h => absurd (by decide) h)
    refine go_iload_n dX12_mostOf_49 rfl ?_
    refine go_iconst (v := iI 2) dX12_mostOf_50 (by decide) ?_
    refine go_icmp_ne (tgt := 59) dX12_mostOf_51 (by decide) (fun _ => ?_) (fun h => absurd h (by decide))
    refine go_iload_n dX12_mostOf_59 rfl ?_
    refine go_iconst (v := iI 3) dX12_mostOf_60 (by decide) ?_
    refine go_icmp_ne (tgt := 69) dX12_mostOf_61 (by decide) (fun _ => ?_) (fun h => absurd h (by decide))
    refine go_iconst (v := iI 1) dX12_mostOf_69 (by decide) ?_
    refine go_iret rfl rfl dX12_mostOf_70 ?_
    exact hK
  | 2, _, j + 5, h, _ => exact absurd h (by show ¬ (j + 5 < 5); omega)
  | κ + 3, h, _, _, _ => omega
theorem TX_sI {σ : AS} {t : List Nat} {tx b k : Nat} {r : Nat → Int32} (h : TX σ tx b t) (h1 : k ≠ 111) (h2 : k ≠ 112) (h3 : k ≠ 113) : TX (sI σ k r) tx b t := by
  obtain ⟨a1, a2, a3, a4, a5⟩ := h
  refine ⟨a1, a2, by rw [sI_ne _ _ _ _ (fun q => h1 q.symm)]; exact a3, by rw [sI_ne _ _ _ _ (fun q => h1 q.symm)]; exact a4, fun i c hc => ?_⟩
  rw [sI_ne _ _ _ _ (by rcases a2 with ⟨e, -⟩ | ⟨e, -⟩ <;> omega)]
  exact a5 i c hc
theorem msa_rd {σ : AS} {k q : Nat} {f : Int} {r : Nat → Int32} (h1 : k ≠ 111) : (msa (sI σ k r) q f).1 k = r := by rw [msa_ne _ _ _ _ h1, sI_same]
theorem msa_row {σ : AS} {k q j : Nat} {f : Int} {r : Nat → Int32} {v : Int32} (h1 : k ≠ 111) : sI (msa (sI σ k r) q f) k (upd ((msa (sI σ k r) q f).1 k) j v) = msa (sI σ k (upd r j v)) q f := by
  rw [msa_rd h1]
  unfold msa
  rw [sI_comm _ 111 k _ _ (fun q => h1 q.symm), sI_sI, sI_ne σ k 111 r (fun q => h1 q.symm), sI_ne σ k 111 _ (fun q => h1 q.symm)]
def spZ (κ : Nat) (c : Int) : Int := match spS κ c with
  | some j => j
  | none => -1
theorem spZ_some {κ : Nat} {c : Int} {j : Nat} (hκ : κ < 3) (hj : j < kN κ) (h : sc κ j = c) : spZ κ c = j := by unfold spZ; rw [spS_some hκ hj h]
theorem spZ_none {κ : Nat} {c : Int} (h : ∀ j, j < kN κ → sc κ j ≠ c) : spZ κ c = -1 := by unfold spZ; rw [spS_none h]
theorem spS_lt {κ : Nat} {c : Int} {j : Nat} (h : spS κ c = some j) : j < kN κ ∧ sc κ j = c := by
  unfold spS at h
  have h1 := List.find?_some h
  have h2 := List.mem_of_find?_eq_some h
  exact ⟨List.mem_range.mp h2, by simpa using h1⟩
/-- spotOf of the model, on a sign of the text -/
theorem spot_K {l : Launch} {D : va_G} {cA ad : Nat → Nat} {d : Nat} {σ : AS} {K : Option Value → AS → Prop} {κ : Nat} {c : Int} (hκ : κ < 3) (hc : -1 ≤ c ∧ c ≤ 255) (hK : K (some (.int (iI (spZ κ c)))) σ) : Call l D cA ad (d + 4) mX12_spotOf [.ref (2000 + (8 + κ)), .int (iI c)] σ K := by
  have kk := kN_ok κ hκ
  refine ct_X12_spotOf (by omega) hc (fun k h1 h2 => ?_) (fun h => ?_)
  · rw [spZ_some (j := k) hκ (by omega) (by rw [(kV_ok κ hκ k (by omega)).2.2.2.2.2.2.2.1]; exact h2)] at hK
    exact hK
  · rw [spZ_none (fun j hj => by rw [(kV_ok κ hκ j hj).2.2.2.2.2.2.2.1]; exact h j (by omega))] at hK
    exact hK
theorem numS_pos {t : List Nat} {a : Nat} {lo hi : Int} (ha : a ≤ t.length) : (numS t a lo hi).1 ≤ t.length := by
  have hs := sk_le ha
  unfold numS
  split
  · next h0 =>
    have l0 := isD_lt (t := t) (p := sk t a) h0
    split
    · next h1 =>
      have l1 := isD_lt (t := t) (p := sk t a + 1) h1
      split
      · next h2 => have l2 := isD_lt (t := t) (p := sk t a + 2) h2; dsimp only; omega
      · split <;> dsimp only <;> omega
    · split <;> dsimp only <;> omega
  · exact hs
theorem it_X12_readItems {l : Launch} {D : va_G} {cA ad : Nat → Nat} {d : Nat} {σ : AS} {K : Option Value → AS → Prop} {t : List Nat} {κ rw a0 tx b o nr : Nat} (hκ : κ < 3) (ht : TOK t) (hR : RO σ) (hX : TX σ tx b t) (hrw : sh[rw]? = some (1, nr)) (hnr : o + kN κ ≤ nr) (hn5 : nr ≤ 1000) (h1 : rw ≠ 111) (h2 : rw ≠ 112) (h3 : rw ≠ 113) (hK1 : ∀ q r row', itS t κ (kN κ + 1) a0 0 (unK κ) = (q, false, row') → (∀ i, i < o ∨ o + kN κ ≤ i → r i = σ.1 rw i) → K none (msa (sI σ rw r) q q)) (hK2 : ∀ q row' r, itS t κ (kN κ + 1) a0 0 (unK κ) = (q, true, row') → q ≤ t.length → sk t q = q → (∀ j, j < kN κ → r (o + j) = iI (row' j)) → (∀ i, i < o ∨ o + kN κ ≤ i → r i = σ.1 rw i) → K none (msa (sI σ rw r) q (-1))) : ∀ (n a m : Nat) (row : Nat → Int) (r : Nat → Int32), m < 2 ^ kN κ → kN κ + 1 = n + pop9 m → a ≤ t.length → (∀ j, j < kN κ → r (o + j) = iI (row j)) → (∀ i, i < o ∨ o + kN κ ≤ i → r i = σ.1 rw i) → itS t κ (kN κ + 1) a0 0 (unK κ) = itS t κ n a m row → Go l D cA ad (d + 5) mX12_readItems 45 [.ref 111, .int (iI (kc κ)), .ref rw, .int (iI o), .ref (2000 + (8 + κ)), .int (iI m), .int (iI (spZ κ (ch t (sk t a))))] [] (msa (sI σ rw r) (sk t a) (-1)) K := by
  have ht1 := ht.1
  have kk := kN_ok κ hκ
  intro n
  induction n with
  | zero =>
    intro a m row r hm hn
    have := pop_le m (by have := pw_lt (kN κ) (by omega); omega) (kN κ) (by omega) hm
    omega
  | succ n ih =>
  intro a m row r hm hn ha hr hf hres
  have hm5 := pw_lt (kN κ) (by omega)
  have hpl := pop_le m (by omega) (kN κ) (by omega) hm
  have hsk := sk_le ha
  have hch := ch_lt ht (sk t a)
  refine go_iload dX12_readItems_45 rfl ?_
  refine go_iconst (v := iI (-1)) dX12_readItems_47 (by decide) ?_
  refine go_icmp_eq (tgt := 138) dX12_readItems_48 (by decide) (fun h48 => ?_) (fun h48 => ?_)
  · have hsp : spS κ (ch t (sk t a)) = none := by
      cases e : spS κ (ch t (sk t a)) with
      | none => rfl
      | some j =>
        have := spS_lt e
        rw [show spZ κ (ch t (sk t a)) = j by unfold spZ; rw [e], iI_eq (by omega)] at h48
        omega
    refine go_vret rfl dX12_readItems_138 ?_
    exact hK2 _ _ _ (hres.trans (itS_none hsp)) hsk (sk_sk t a) hr hf
  · obtain ⟨j, hsp⟩ : ∃ j, spS κ (ch t (sk t a)) = some j := by
      cases e : spS κ (ch t (sk t a)) with
      | none => rw [show spZ κ (ch t (sk t a)) = -1 by unfold spZ; rw [e]] at h48; exact absurd rfl h48
      | some j => exact ⟨j, rfl⟩
    obtain ⟨hj, hsc⟩ := spS_lt hsp
    have hz : spZ κ (ch t (sk t a)) = j := by unfold spZ; rw [hsp]
    rw [hz]
    have kv := kV_ok κ hκ j hj
    refine go_aload_n dX12_readItems_51 rfl ?_
    refine go_getI fX12_128 dX12_readItems_52 rfl ?_
    refine go_iconst (v := iI (-1)) dX12_readItems_55 (by decide) ?_
    refine go_icmp_ne (tgt := 138) dX12_readItems_56 (by decide) (fun h56 => ?_) (fun h56 => ?_)
    · exfalso
      rw [msa_ft] at h56
      exact h56 rfl
    · refine go_iload dX12_readItems_59 rfl ?_
      refine go_iload dX12_readItems_61 rfl ?_
      refine go_callS (as := [_, _]) wX12_229 dX12_readItems_63 rfl rfl (Nat.le_of_ble_eq_true rfl) (ct_X12_has (by omega) (by omega) ?_)
      refine go_if_eq (tgt := 75) dX12_readItems_66 (by decide) (fun h66 => ?_) (fun h66 => ?_)
      · rw [iI_eq0 (by omega)] at h66
        have hbit : m / 2 ^ j % 2 = 0 := by omega
        refine go_iload dX12_readItems_75 rfl ?_
        refine go_iconst (v := iI 1) dX12_readItems_77 (by decide) ?_
        refine go_iload dX12_readItems_78 rfl ?_
        refine go_ishl dX12_readItems_80 ?_
        refine go_ior dX12_readItems_81 ?_
        refine go_istore dX12_readItems_82 (Nat.le_of_ble_eq_true rfl) rfl ?_
        rw [b_or m (by omega) j (by omega)]
        refine go_aload_n dX12_readItems_84 rfl ?_
        refine go_dup dX12_readItems_85 rfl ?_
        refine go_getI fX12_119 dX12_readItems_86 rfl ?_
        refine go_iconst (v := iI 1) dX12_readItems_89 (by decide) ?_
        refine go_iadd dX12_readItems_90 ?_
        refine go_putI fX12_119 rfl dX12_readItems_91 rfl rfl rfl ?_
        rw [msa_inc]
        have hp1 : sk t a + 1 ≤ t.length := by
          rcases Nat.lt_or_ge (sk t a) t.length with q | q
          · exact q
          · have := ch_out q; omega
        refine go_aload_n dX12_readItems_94 rfl ?_
        refine go_iload_n dX12_readItems_95 rfl ?_
        refine go_iload dX12_readItems_96 rfl ?_
        refine go_iadd dX12_readItems_98 ?_
        refine go_aload_n dX12_readItems_99 rfl ?_
        refine go_iload_n dX12_readItems_100 rfl ?_
        refine go_iload dX12_readItems_101 rfl ?_
        refine go_callS (as := [_, _]) wX12_233 dX12_readItems_103 rfl rfl (Nat.le_of_ble_eq_true rfl) (ct_X12_leastOf hκ hj ?_)
        refine go_iload_n dX12_readItems_106 rfl ?_
        refine go_iload dX12_readItems_107 rfl ?_
        refine go_callS (as := [_, _]) wX12_236 dX12_readItems_109 rfl rfl (Nat.le_of_ble_eq_true rfl) (ct_X12_mostOf hκ hj ?_)
        refine go_callV (as := [_, _]) wX12_239 dX12_readItems_112 rfl rfl rfl rfl (Nat.le_of_ble_eq_true rfl) (ct_X12_number ht (TX_sI hX h1 h2 h3) hp1 (by omega) (by omega) (fun q hq v => ?_) (fun q v hq => ?_))
        · have hbad := itS_bad (n := n) (row := row) hsp hbit hq
          have hq9 : q ≤ 1000 := by
            have := numS_pos (lo := loK κ j) (hi := hiK κ j) hp1
            rw [hq] at this
            dsimp only at this
            omega
          refine go_iast dX12_readItems_115 hrw (by rw [iI_add]; exact vp_iI (by omega) (by omega)) ?_
          simp only [iI_add, iI_cl (show (0 : Int) ≤ (o : Int) + (j : Int) ∧ (o : Int) + (j : Int) < 2147483648 by omega), show ((o : Int) + (j : Int)).toNat = o + j by omega]
          rw [msa_row h1]
          refine go_aload_n dX12_readItems_116 rfl ?_
          refine go_getI fX12_128 dX12_readItems_117 rfl ?_
          refine go_iconst (v := iI (-1)) dX12_readItems_120 (by decide) ?_
          refine go_icmp_ne (tgt := 45) dX12_readItems_121 (by decide) (fun h121 => ?_) (fun h121 => ?_)
          · refine go_iload dX12_readItems_45 rfl ?_
            refine go_iconst (v := iI (-1)) dX12_readItems_47 (by decide) ?_
            refine go_icmp_eq (tgt := 138) dX12_readItems_48 (by decide) (fun g48 => ?_) (fun g48 => ?_)
            · exfalso
              rw [iI_eq (by omega)] at g48
              omega
            · refine go_aload_n dX12_readItems_51 rfl ?_
              refine go_getI fX12_128 dX12_readItems_52 rfl ?_
              refine go_iconst (v := iI (-1)) dX12_readItems_55 (by decide) ?_
              refine go_icmp_ne (tgt := 138) dX12_readItems_56 (by decide) (fun g56 => ?_) (fun g56 => ?_)
              · refine go_vret rfl dX12_readItems_138 ?_
                exact hK1 _ _ _ (hres.trans hbad) (fun i hi => by rw [upd_ne _ _ _ _ (by omega)]; exact hf i hi)
              · exfalso
                rw [msa_ft, iI_eq (by omega)] at g56
                omega
          · exfalso
            rw [msa_ft, iI_eq (by omega)] at h121
            omega
        · have hgo := itS_go (n := n) (row := row) hsp hbit hq
          have hle := numS_le hp1 hq
          refine go_iast dX12_readItems_115 hrw (by rw [iI_add]; exact vp_iI (by omega) (by omega)) ?_
          simp only [iI_add, iI_cl (show (0 : Int) ≤ (o : Int) + (j : Int) ∧ (o : Int) + (j : Int) < 2147483648 by omega), show ((o : Int) + (j : Int)).toNat = o + j by omega]
          rw [msa_row h1]
          refine go_aload_n dX12_readItems_116 rfl ?_
          refine go_getI fX12_128 dX12_readItems_117 rfl ?_
          refine go_iconst (v := iI (-1)) dX12_readItems_120 (by decide) ?_
          refine go_icmp_ne (tgt := 45) dX12_readItems_121 (by decide) (fun h121 => ?_) (fun h121 => ?_)
          · exfalso
            rw [msa_ft] at h121
            exact h121 rfl
          · refine go_aload dX12_readItems_124 rfl ?_
            refine go_aload_n dX12_readItems_126 rfl ?_
            refine go_callV (as := []) wX12_138 dX12_readItems_127 rfl rfl rfl rfl (Nat.le_of_ble_eq_true rfl) (ct_X12_look ht (TX_sI hX h1 h2 h3) (by omega) ?_)
            refine go_callS (as := [_, _]) wX12_225 dX12_readItems_130 rfl rfl (Nat.le_of_ble_eq_true rfl) (spot_K hκ (ch_lt ht _) ?_)
            refine go_istore dX12_readItems_133 (Nat.le_of_ble_eq_true rfl) rfl ?_
            refine go_goto (tgt := 45) dX12_readItems_135 (by decide) ?_
            simp only [List.set]
            exact ih q (m ||| 2 ^ j) _ _ (or_lt (kN κ) (by omega) j hj m hm) (by rw [pop_or m (by omega) j (by omega) hbit]; omega) hle.1 (fun i hi => by
              by_cases e : i = j
              · subst e; rw [upd_same, if_pos rfl]
              · rw [upd_ne _ _ _ _ (by omega), if_neg e]; exact hr i hi) (fun i hi => by rw [upd_ne _ _ _ _ (by omega)]; exact hf i hi) (hres.trans hgo)
      · have hbit := (bit_01 m j).resolve_left (fun q => h66 (by rw [q]; rfl))
        refine go_aload_n dX12_readItems_69 rfl ?_
        refine go_callV (as := []) wX12_134 dX12_readItems_70 rfl rfl rfl rfl (Nat.le_of_ble_eq_true rfl) (ct_X12_fails ?_)
        refine go_pop dX12_readItems_73 rfl ?_
        refine go_vret rfl dX12_readItems_74 ?_
        exact hK1 _ _ _ (hres.trans (itS_dup hsp hbit)) hf
theorem fl_X12_readItems {l : Launch} {D : va_G} {cA ad : Nat → Nat} {d : Nat} {σ : AS} {K : Option Value → AS → Prop} {t : List Nat} {κ rw a0 tx b o nr : Nat} (hκ : κ < 3) (ht : TOK t) (hR : RO σ) (hX : TX σ tx b t) (hrw : sh[rw]? = some (1, nr)) (hnr : o + kN κ ≤ nr) (hn5 : nr ≤ 1000) (h1 : rw ≠ 111) (h2 : rw ≠ 112) (h3 : rw ≠ 113) (ha : a0 ≤ t.length) (hK1 : ∀ q r row', itS t κ (kN κ + 1) a0 0 (unK κ) = (q, false, row') → (∀ i, i < o ∨ o + kN κ ≤ i → r i = σ.1 rw i) → K none (msa (sI σ rw r) q q)) (hK2 : ∀ q row' r, itS t κ (kN κ + 1) a0 0 (unK κ) = (q, true, row') → q ≤ t.length → sk t q = q → (∀ j, j < kN κ → r (o + j) = iI (row' j)) → (∀ i, i < o ∨ o + kN κ ≤ i → r i = σ.1 rw i) → K none (msa (sI σ rw r) q (-1))) : ∀ (n k : Nat) (r : Nat → Int32), kN κ - k < n → k ≤ kN κ → (∀ j, j < k → r (o + j) = iI (unK κ j)) → (∀ i, i < o ∨ o + kN κ ≤ i → r i = σ.1 rw i) → Go l D cA ad (d + 5) mX12_readItems 3 [.ref 111, .int (iI (kc κ)), .ref rw, .int (iI o), .ref (2000 + (8 + κ)), .int (iI k), .null] [] (msa (sI σ rw r) a0 (-1)) K := by
  have ht1 := ht.1
  have kk := kN_ok κ hκ
  intro n
  induction n with
  | zero => intro k r h; omega
  | succ n ih =>
  intro k r hn hkn hr hf
  refine go_iload dX12_readItems_3 rfl ?_
  refine go_aload dX12_readItems_5 rfl ?_
  refine go_callVs (i := 8 + κ) (as := []) (by omega) wX12_99 rfl dX12_readItems_7 rfl rfl (Nat.le_of_ble_eq_true rfl) (ct_J0_length_8abf5 (by omega) ?_)
  refine go_icmp_ge (tgt := 31) dX12_readItems_10 (by decide) (fun h10 => ?_) (fun h10 => ?_)
  · rw [kk.2.1, iI_le (by omega)] at h10
    refine go_iconst (v := iI 0) dX12_readItems_31 (by decide) ?_
    refine go_istore dX12_readItems_32 (Nat.le_of_ble_eq_true rfl) rfl ?_
    refine go_aload dX12_readItems_34 rfl ?_
    refine go_aload_n dX12_readItems_36 rfl ?_
    refine go_callV (as := []) wX12_138 dX12_readItems_37 rfl rfl rfl rfl (Nat.le_of_ble_eq_true rfl) (ct_X12_look ht (TX_sI hX h1 h2 h3) ha ?_)
    refine go_callS (as := [_, _]) wX12_225 dX12_readItems_40 rfl rfl (Nat.le_of_ble_eq_true rfl) (spot_K hκ (ch_lt ht _) ?_)
    refine go_istore dX12_readItems_43 (Nat.le_of_ble_eq_true rfl) rfl ?_
    simp only [List.set]
    exact it_X12_readItems hκ ht hR hX hrw hnr hn5 h1 h2 h3 hK1 hK2 (kN κ + 1) a0 0 (unK κ) r (Nat.pos_of_ne_zero (by simp)) rfl ha (fun j hj => hr j (by omega)) hf rfl
  · rw [kk.2.1, iI_le (by omega)] at h10
    refine go_aload_n dX12_readItems_13 rfl ?_
    refine go_iload_n dX12_readItems_14 rfl ?_
    refine go_iload dX12_readItems_15 rfl ?_
    refine go_iadd dX12_readItems_17 ?_
    refine go_iload_n dX12_readItems_18 rfl ?_
    refine go_iload dX12_readItems_19 rfl ?_
    refine go_callS (as := [_, _]) wX12_221 dX12_readItems_21 rfl rfl (Nat.le_of_ble_eq_true rfl) (ct_X12_usual hκ (by omega) ?_)
    refine go_iast dX12_readItems_24 hrw (by rw [iI_add]; exact vp_iI (by omega) (by omega)) ?_
    simp only [iI_add, iI_cl (show (0 : Int) ≤ (o : Int) + (k : Int) ∧ (o : Int) + (k : Int) < 2147483648 by omega), show ((o : Int) + (k : Int)).toNat = o + k by omega]
    rw [msa_row h1]
    refine go_iincI dX12_readItems_25 rfl (Nat.le_of_ble_eq_true rfl) rfl ?_
    refine go_goto (tgt := 3) dX12_readItems_28 (by decide) ?_
    simp only [List.set, iI_add]
    exact ih (k + 1) _ (by omega) (by omega) (fun j hj => by
      by_cases e : j = k
      · subst e; rw [upd_same]
      · rw [upd_ne _ _ _ _ (by omega)]; exact hr j (by omega)) (fun i hi => by rw [upd_ne _ _ _ _ (by omega)]; exact hf i hi)
theorem ct_X12_readItems {l : Launch} {D : va_G} {cA ad : Nat → Nat} {d : Nat} {σ : AS} {K : Option Value → AS → Prop} {t : List Nat} {κ rw a0 tx b o nr : Nat} (hκ : κ < 3) (ht : TOK t) (hR : RO σ) (hX : TX σ tx b t) (hrw : sh[rw]? = some (1, nr)) (hnr : o + kN κ ≤ nr) (hn5 : nr ≤ 1000) (h1 : rw ≠ 111) (h2 : rw ≠ 112) (h3 : rw ≠ 113) (ha : a0 ≤ t.length) (hK1 : ∀ q r row', itS t κ (kN κ + 1) a0 0 (unK κ) = (q, false, row') → (∀ i, i < o ∨ o + kN κ ≤ i → r i = σ.1 rw i) → K none (msa (sI σ rw r) q q)) (hK2 : ∀ q row' r, itS t κ (kN κ + 1) a0 0 (unK κ) = (q, true, row') → q ≤ t.length → sk t q = q → (∀ j, j < kN κ → r (o + j) = iI (row' j)) → (∀ i, i < o ∨ o + kN κ ≤ i → r i = σ.1 rw i) → K none (msa (sI σ rw r) q (-1))) : Call l D cA ad (d + 5) mX12_readItems [.ref 111, .int (iI (kc κ)), .ref rw, .int (iI o), .ref (2000 + (8 + κ))] (msa σ a0 (-1)) K := by
  refine call_go (by decide) (Nat.le_of_ble_eq_true rfl) (show Go l D cA ad (d + 5) mX12_readItems 0 [.ref 111, .int (iI (kc κ)), .ref rw, .int (iI o), .ref (2000 + (8 + κ)), .null, .null] [] (msa σ a0 (-1)) K from ?_)
  refine go_iconst (v := iI 0) dX12_readItems_0 (by decide) ?_
  refine go_istore dX12_readItems_1 (Nat.le_of_ble_eq_true rfl) rfl ?_
  simp only [List.set]
  have := fl_X12_readItems (l := l) (D := D) (cA := cA) (ad := ad) (d := d) hκ ht hR hX hrw hnr hn5 h1 h2 h3 ha hK1 hK2 (kN κ + 1) 0 (σ.1 rw) (by omega) (by omega) (fun j hj => by omega) (fun i hi => rfl)
  rw [sI_self] at this
  exact this
