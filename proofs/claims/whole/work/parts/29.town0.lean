section GO29
variable {l : Launch} {D : va_G} {cA ad : Nat → Nat} {d : Nat} {M : Mt} {pc : Nat} {lv st : List Value} {σ : AS} {K : Option Value → AS → Prop}
theorem go_ldcSW {i : Nat} (hi : i < 12) (ho : M.1.cls = (strT i).1) (hd : decode M.2.1 pc = .ok (.ldc_w (strT i).2.1, 3)) (kk : Go l D cA ad d M (pc + 3) lv (.ref (2000 + i) :: st) σ K) : Go l D cA ad d M pc lv st σ K := by
  intro p e s m args below meth c s₁ B hml hC H locs ls hP hS hl
  have hown : s.vm.findClass M.1.cls = some m.cls := findClass_of_methodNamed B.named
  have hZ := (hC.2.2.2.1 i hi).1
  intro T hT X
  obtain ⟨t, a1, b1⟩ := kk p e s m args below meth c s₁ B hml hC H locs ls hP hS hl T hT X
  exact ⟨t, X.ldcStringW B.exec (by rw [← ho]; exact hown) (text := (strT i).2.2) (a := ad (2000 + i)) hZ.1 hZ.2 (g := F0 m pc ls (st.map (cv ad))) rfl (by rw [B.bytes]; exact hd) t a1, b1⟩
theorem go_ldcw {index : Nat} {v : Int32} (hw : Jvm.Cond.constant M.1.cls index v ∈ tb) (hd : decode M.2.1 pc = .ok (.ldc_w index, 3)) (kk : Go l D cA ad d M (pc + 3) lv (.int v :: st) σ K) : Go l D cA ad d M pc lv st σ K := by
  intro p e s m args below meth c s₁ B hml hC H locs ls hP hS hl
  have hts := atoms_spec (ws := wsM M) B.pre
  have hown : s.vm.findClass M.1.cls = some m.cls := findClass_of_methodNamed B.named
  exact lv_ldcw B.exec B.bytes hown (hts _ (List.mem_cons_of_mem _ hw)) hd (kk p e s m args below meth c s₁ B hml hC H locs ls hP hS hl)
end GO29
theorem cl_0 : (iI 0).toNatClampNeg = 0 := by decide
theorem cl_n (n : Nat) (h : n < 2147483648) : (iI n).toNatClampNeg = n := by rw [iI_cl (by omega), Int.toNat_natCast]
theorem minn (n : Nat) : (if Int32.ofNat n < Int32.ofNat n then Int32.ofNat n else Int32.ofNat n) = iI n := by rw [if_neg (Int32.lt_irrefl), iI_ofNat]
theorem cpy0 {f g : Nat → Int32} {n i : Nat} (h : i < n) : va_cpy f g 0 0 n i = f i := by rw [pk_cpy_in (Nat.zero_le i) (by omega)]; simp
theorem ct_X9_copyRow_t {l : Launch} {D : va_G} {cA ad : Nat → Nat} {d : Nat} {σ : AS} {K : Option Value → AS → Prop} {j rw n : Nat} (hj : j < 9) (hrw : sh[rw]? = some (1, n)) (hn : (stV j).length = n) (hn9 : n ≤ 9) (hK : ∀ r, (∀ i, i < n → r i = (stV j).getD i 0) → K none (sI σ rw r)) : Call l D cA ad (d + 1) mX9_copyRow [.ref (1000 + j), .ref rw] σ K := by
  refine call_go (by decide) (Nat.le_of_ble_eq_true rfl) (show Go l D cA ad (d + 1) mX9_copyRow 0 [.ref (1000 + j), .ref rw] [] σ K from ?_)
  refine go_aload_n dX9_copyRow_0 rfl ?_
  refine go_iconst (v := iI 0) dX9_copyRow_1 (by decide) ?_
  refine go_aload_n dX9_copyRow_2 rfl ?_
  refine go_iconst (v := iI 0) dX9_copyRow_3 (by decide) ?_
  refine go_aload_n dX9_copyRow_4 rfl ?_
  refine go_tlen (by omega) dX9_copyRow_5 ?_
  refine go_aload_n dX9_copyRow_6 rfl ?_
  refine go_alen1 dX9_copyRow_7 hrw ?_
  refine go_min wX9_118 dX9_copyRow_8 (Nat.le_of_ble_eq_true rfl) ?_
  rw [hn, minn]
  refine go_copyt (j := j) hj wX9_124 dX9_copyRow_11 hrw (by decide) (by decide) (by rw [iI_lt0 (by omega)]; omega) (by rw [cl_0, cl_n n (by omega)]; omega) (by rw [cl_0, cl_n n (by omega)]; omega) (Nat.le_of_ble_eq_true rfl) ?_
  refine go_vret rfl dX9_copyRow_14 ?_
  refine hK _ (fun i hi => ?_)
  rw [cl_0, cl_n n (by omega)]
  exact cpy0 hi

theorem ct_X9_copyRow {l : Launch} {D : va_G} {cA ad : Nat → Nat} {d : Nat} {σ : AS} {K : Option Value → AS → Prop} {k0 rw n : Nat} (hk0 : sh[k0]? = some (1, n)) (hrw : sh[rw]? = some (1, n)) (hn9 : n ≤ 9) (hK : ∀ r, (∀ i, i < n → r i = σ.1 k0 i) → K none (sI σ rw r)) : Call l D cA ad (d + 1) mX9_copyRow [.ref k0, .ref rw] σ K := by
  refine call_go (by decide) (Nat.le_of_ble_eq_true rfl) (show Go l D cA ad (d + 1) mX9_copyRow 0 [.ref k0, .ref rw] [] σ K from ?_)
  refine go_aload_n dX9_copyRow_0 rfl ?_
  refine go_iconst (v := iI 0) dX9_copyRow_1 (by decide) ?_
  refine go_aload_n dX9_copyRow_2 rfl ?_
  refine go_iconst (v := iI 0) dX9_copyRow_3 (by decide) ?_
  refine go_aload_n dX9_copyRow_4 rfl ?_
  refine go_alen1 dX9_copyRow_5 hk0 ?_
  refine go_aload_n dX9_copyRow_6 rfl ?_
  refine go_alen1 dX9_copyRow_7 hrw ?_
  refine go_min wX9_118 dX9_copyRow_8 (Nat.le_of_ble_eq_true rfl) ?_
  rw [minn]
  refine go_copyi hk0 wX9_124 dX9_copyRow_11 hrw (by decide) (by decide) (by rw [iI_lt0 (by omega)]; omega) (by rw [cl_0, cl_n n (by omega)]; omega) (by rw [cl_0, cl_n n (by omega)]; omega) (Nat.le_of_ble_eq_true rfl) ?_
  refine go_vret rfl dX9_copyRow_14 ?_
  refine hK _ (fun i hi => ?_)
  rw [cl_0, cl_n n (by omega)]
  exact cpy0 hi

theorem ct_X9_isTold {l : Launch} {D : va_G} {cA ad : Nat → Nat} {d : Nat} {σ : AS} {K : Option Value → AS → Prop} {tw n : Nat} (hs : sh[tw]? = some (0, 9)) (hn : σ.1 tw 4 = iI n) (hn9 : n ≤ 1000) (hK : K (some (.int (if 0 < n then iI 1 else iI 0))) σ) : Call l D cA ad d mX9_isTold [.ref tw] σ K := by
  refine call_go (by decide) (Nat.le_of_ble_eq_true rfl) (show Go l D cA ad d mX9_isTold 0 [.ref tw] [] σ K from ?_)
  refine go_aload_n dX9_isTold_0 rfl ?_
  refine go_getI fX9_35 dX9_isTold_1 hs ?_
  refine go_if_le (tgt := 11) dX9_isTold_4 (by decide) (fun h4 => ?_) (fun h4 => ?_)
  · rw [hn, iI_le0 (by omega)] at h4
    rw [if_neg (by omega)] at hK
    refine go_iconst (v := iI 0) dX9_isTold_11 (by decide) ?_
    refine go_iret rfl rfl dX9_isTold_12 ?_
    exact hK
  · rw [hn, iI_le0 (by omega)] at h4
    rw [if_pos (by omega)] at hK
    refine go_iconst (v := iI 1) dX9_isTold_7 (by decide) ?_
    refine go_goto (tgt := 12) dX9_isTold_8 (by decide) ?_
    refine go_iret rfl rfl dX9_isTold_12 ?_
    exact hK

theorem ct_X9_hasPond {l : Launch} {D : va_G} {cA ad : Nat → Nat} {d : Nat} {σ : AS} {K : Option Value → AS → Prop} {tw n : Nat} {p : Int} (hp : -2147483648 ≤ p ∧ p < 2147483648) (hs : sh[tw]? = some (0, 9)) (hn : σ.1 tw 4 = iI n) (hn9 : n ≤ 1000) (hK : K (some (.int (if 0 ≤ p ∧ p < n then iI 1 else iI 0))) σ) : Call l D cA ad d mX9_hasPond [.ref tw, .int (iI p)] σ K := by
  refine call_go (by decide) (Nat.le_of_ble_eq_true rfl) (show Go l D cA ad d mX9_hasPond 0 [.ref tw, .int (iI p)] [] σ K from ?_)
  refine go_iload_n dX9_hasPond_0 rfl ?_
  refine go_if_lt (tgt := 16) dX9_hasPond_1 (by decide) (fun h1 => ?_) (fun h1 => ?_)
  · rw [iI_lt0 (by omega)] at h1
    refine go_iconst (v := iI 0) dX9_hasPond_16 (by decide) ?_
    refine go_iret rfl rfl dX9_hasPond_17 ?_
    first | (rw [if_pos (by omega)] at hK; exact hK) | (rw [if_neg (by omega)] at hK; exact hK)
  · rw [iI_lt0 (by omega)] at h1
    refine go_iload_n dX9_hasPond_4 rfl ?_
    refine go_aload_n dX9_hasPond_5 rfl ?_
    refine go_getI fX9_35 dX9_hasPond_6 hs ?_
    refine go_icmp_ge (tgt := 16) dX9_hasPond_9 (by decide) (fun h9 => ?_) (fun h9 => ?_)
    · rw [hn, iI_le (by omega)] at h9
      refine go_iconst (v := iI 0) dX9_hasPond_16 (by decide) ?_
      refine go_iret rfl rfl dX9_hasPond_17 ?_
      first | (rw [if_pos (by omega)] at hK; exact hK) | (rw [if_neg (by omega)] at hK; exact hK)
    · rw [hn, iI_le (by omega)] at h9
      refine go_iconst (v := iI 1) dX9_hasPond_12 (by decide) ?_
      refine go_goto (tgt := 17) dX9_hasPond_13 (by decide) ?_
      refine go_iret rfl rfl dX9_hasPond_17 ?_
      first | (rw [if_pos (by omega)] at hK; exact hK) | (rw [if_neg (by omega)] at hK; exact hK)

theorem ct_X9_hasPipe {l : Launch} {D : va_G} {cA ad : Nat → Nat} {d : Nat} {σ : AS} {K : Option Value → AS → Prop} {tw n : Nat} {p : Int} (hp : -2147483648 ≤ p ∧ p < 2147483648) (hs : sh[tw]? = some (0, 9)) (hn : σ.1 tw 5 = iI n) (hn9 : n ≤ 1000) (hK : K (some (.int (if 0 ≤ p ∧ p < n then iI 1 else iI 0))) σ) : Call l D cA ad d mX9_hasPipe [.ref tw, .int (iI p)] σ K := by
  refine call_go (by decide) (Nat.le_of_ble_eq_true rfl) (show Go l D cA ad d mX9_hasPipe 0 [.ref tw, .int (iI p)] [] σ K from ?_)
  refine go_iload_n dX9_hasPipe_0 rfl ?_
  refine go_if_lt (tgt := 16) dX9_hasPipe_1 (by decide) (fun h1 => ?_) (fun h1 => ?_)
  · rw [iI_lt0 (by omega)] at h1
    refine go_iconst (v := iI 0) dX9_hasPipe_16 (by decide) ?_
    refine go_iret rfl rfl dX9_hasPipe_17 ?_
    first | (rw [if_pos (by omega)] at hK; exact hK) | (rw [if_neg (by omega)] at hK; exact hK)
  · rw [iI_lt0 (by omega)] at h1
    refine go_iload_n dX9_hasPipe_4 rfl ?_
    refine go_aload_n dX9_hasPipe_5 rfl ?_
    refine go_getI fX9_39 dX9_hasPipe_6 hs ?_
    refine go_icmp_ge (tgt := 16) dX9_hasPipe_9 (by decide) (fun h9 => ?_) (fun h9 => ?_)
    · rw [hn, iI_le (by omega)] at h9
      refine go_iconst (v := iI 0) dX9_hasPipe_16 (by decide) ?_
      refine go_iret rfl rfl dX9_hasPipe_17 ?_
      first | (rw [if_pos (by omega)] at hK; exact hK) | (rw [if_neg (by omega)] at hK; exact hK)
    · rw [hn, iI_le (by omega)] at h9
      refine go_iconst (v := iI 1) dX9_hasPipe_12 (by decide) ?_
      refine go_goto (tgt := 17) dX9_hasPipe_13 (by decide) ?_
      refine go_iret rfl rfl dX9_hasPipe_17 ?_
      first | (rw [if_pos (by omega)] at hK; exact hK) | (rw [if_neg (by omega)] at hK; exact hK)

