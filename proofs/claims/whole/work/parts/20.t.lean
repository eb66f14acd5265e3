theorem ct_X12_isIn {l : Launch} {D : va_G} {cA ad : Nat → Nat} {d : Nat} {σ : AS} {K : Option Value → AS → Prop} {v a b : Int64} (hK : K (some (.int (if a ≤ v ∧ v ≤ b then 1 else 0))) σ) : Call l D cA ad d mX12_isIn [.long v, .long a, .long b] σ K := by
  refine call_go (by decide) (by decide) (show Go l D cA ad d mX12_isIn 0 [.long v, .null, .long a, .null, .long b, .null] [] σ K from ?_)
  refine go_lload_n dX12_isIn_0 rfl ?_
  refine go_lload_n dX12_isIn_1 rfl ?_
  refine go_lcmp dX12_isIn_2 ?_
  refine go_if_lt (tgt := 17) dX12_isIn_3 (by decide) (fun h3 => ?_) (fun h3 => ?_)
  · refine go_iconst (v := 0) dX12_isIn_17 (by decide) ?_
    refine go_iret rfl rfl dX12_isIn_18 ?_
    simpa [*] using hK
  · refine go_lload_n dX12_isIn_6 rfl ?_
    refine go_lload dX12_isIn_7 rfl ?_
    refine go_lcmp dX12_isIn_9 ?_
    refine go_if_gt (tgt := 17) dX12_isIn_10 (by decide) (fun h10 => ?_) (fun h10 => ?_)
    · refine go_iconst (v := 0) dX12_isIn_17 (by decide) ?_
      refine go_iret rfl rfl dX12_isIn_18 ?_
      simpa [*] using hK
    · refine go_iconst (v := 1) dX12_isIn_13 (by decide) ?_
      refine go_goto (tgt := 18) dX12_isIn_14 (by decide) ?_
      refine go_iret rfl rfl dX12_isIn_18 ?_
      simpa [*] using hK

theorem ct_X12_has {l : Launch} {D : va_G} {cA ad : Nat → Nat} {d : Nat} {σ : AS} {K : Option Value → AS → Prop} {s k : Int32} (hK : K (some (.int (if (s >>> (k &&& 31)) &&& 1 = 1 then 1 else 0))) σ) : Call l D cA ad d mX12_has [.int s, .int k] σ K := by
  refine call_go (by decide) (by decide) (show Go l D cA ad d mX12_has 0 [.int s, .int k] [] σ K from ?_)
  refine go_iload_n dX12_has_0 rfl ?_
  refine go_iload_n dX12_has_1 rfl ?_
  refine go_ishr dX12_has_2 ?_
  refine go_iconst (v := 1) dX12_has_3 (by decide) ?_
  refine go_iand dX12_has_4 ?_
  refine go_iconst (v := 1) dX12_has_5 (by decide) ?_
  refine go_icmp_ne (tgt := 13) dX12_has_6 (by decide) (fun h6 => ?_) (fun h6 => ?_)
  · refine go_iconst (v := 0) dX12_has_13 (by decide) ?_
    refine go_iret rfl rfl dX12_has_14 ?_
    simpa [*] using hK
  · refine go_iconst (v := 1) dX12_has_9 (by decide) ?_
    refine go_goto (tgt := 14) dX12_has_10 (by decide) ?_
    refine go_iret rfl rfl dX12_has_14 ?_
    simpa [*] using hK

