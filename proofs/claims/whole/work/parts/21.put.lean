/-! the tape -/
def eb (w : Int32) (s : Nat) : List Nat := if bw w s = 0 then [] else [bw w s]
def wb (w : Int32) : List Nat := eb w 24 ++ eb w 16 ++ eb w 8 ++ eb w 0
theorem eb_len (w : Int32) (s : Nat) : ((eb w s).length : Int) = if bw w s = 0 then 0 else 1 := by unfold eb; split <;> rfl
theorem wb_len (w : Int32) : ((wb w).length : Int) = nbw w := by
  unfold wb nbw
  simp only [List.length_append, Int.natCast_add, eb_len]
def TOK (t : List Nat) : Prop := t.length ≤ 240 ∧ ∀ b ∈ t, 1 ≤ b ∧ b ≤ 255
def TC (σ : AS) (t : List Nat) : Prop := σ.1 1 1 = iI t.length ∧ ∀ i b : Nat, t[i]? = some b → σ.1 2 i = iI b
def TM (σ : AS) (t : List Nat) : Prop := σ.1 111 6 = iI t.length ∧ ∀ i b : Nat, t[i]? = some b → σ.1 112 i = sb b
def tset (σ : AS) (r : Nat → Int32) (q : Int32) : AS := sI (sI σ 2 r) 1 (upd (σ.1 1) 1 q)
def uset (σ : AS) (r : Nat → Int32) (q : Int32) : AS := sI (sI σ 112 r) 111 (upd (σ.1 111) 6 q)
theorem tset_tset (σ : AS) (r r' : Nat → Int32) (q q' : Int32) : tset (tset σ r q) r' q' = tset σ r' q' := by
  unfold tset
  rw [sI_same, upd_upd, sI_comm _ 1 2 _ _ (by decide), sI_sI, sI_sI]
theorem uset_uset (σ : AS) (r r' : Nat → Int32) (q q' : Int32) : uset (uset σ r q) r' q' = uset σ r' q' := by
  unfold uset
  rw [sI_same, upd_upd, sI_comm _ 111 112 _ _ (by decide), sI_sI, sI_sI]
theorem tset_id (σ : AS) : tset σ (σ.1 2) (σ.1 1 1) = σ := by
  unfold tset
  rw [sI_self, upd_self, sI_self]
theorem uset_id (σ : AS) : uset σ (σ.1 112) (σ.1 111 6) = σ := by
  unfold uset
  rw [sI_self, upd_self, sI_self]
theorem TC_push {σ : AS} {t : List Nat} {b : Nat} (hT : TC σ t) : TC (tset σ (upd (σ.1 2) t.length (iI b)) (iI (t.length + 1))) (t ++ [b]) := by
  refine ⟨?_, fun i c h => ?_⟩
  · have h : (tset σ (upd (σ.1 2) t.length (iI b)) (iI (t.length + 1))).1 1 1 = iI (t.length + 1) := by unfold tset; rw [sI_same, upd_same]
    rw [h, List.length_append]; rfl
  · show upd (σ.1 2) t.length (iI b) i = iI c
    by_cases hi : i < t.length
    · rw [List.getElem?_append_left hi] at h
      rw [upd_ne _ _ _ _ (by omega)]
      exact hT.2 i c h
    · rw [List.getElem?_append_right (by omega)] at h
      have : i = t.length := by
        have := (List.getElem?_eq_some_iff.mp h).1
        simp at this; omega
      subst this
      simp at h
      rw [upd_same, h]
theorem TM_push {σ : AS} {t : List Nat} {b : Nat} (hT : TM σ t) : TM (uset σ (upd (σ.1 112) t.length (sb b)) (iI (t.length + 1))) (t ++ [b]) := by
  refine ⟨?_, fun i c h => ?_⟩
  · have h : (uset σ (upd (σ.1 112) t.length (sb b)) (iI (t.length + 1))).1 111 6 = iI (t.length + 1) := by unfold uset; rw [sI_same, upd_same]
    rw [h, List.length_append]; rfl
  · show upd (σ.1 112) t.length (sb b) i = sb c
    by_cases hi : i < t.length
    · rw [List.getElem?_append_left hi] at h
      rw [upd_ne _ _ _ _ (by omega)]
      exact hT.2 i c h
    · rw [List.getElem?_append_right (by omega)] at h
      have : i = t.length := by
        have := (List.getElem?_eq_some_iff.mp h).1
        simp at this; omega
      subst this
      simp at h
      rw [upd_same, h]
theorem it_X8_put {l : Launch} {D : va_G} {cA ad : Nat → Nat} {d : Nat} {σ : AS} {K : Option Value → AS → Prop} {w : Int32} {s : Int} {t : List Nat} {v : Value} (hs : sOK s) (hR : RO σ) (hT : TC σ t) (hl : t.length + (eb w s.toNat).length ≤ 240) (k : ∀ r q v, TC (tset σ r q) (t ++ eb w s.toNat) → Go l D cA ad d mX8_put 3 [.ref 1, .int w, .int (iI (s + -8)), v] [] (tset σ r q) K) : Go l D cA ad d mX8_put 3 [.ref 1, .int w, .int (iI s), v] [] σ K := by
  refine go_iload_n dX8_put_3 rfl ?_
  refine go_if_lt (tgt := 57) dX8_put_4 (by decide) (fun h4 => ?_) (fun h4 => ?_)
  · exact absurd h4 (by rcases hs with rfl | rfl | rfl | rfl <;> decide)
  · refine go_iload_n dX8_put_7 rfl ?_
    refine go_iload_n dX8_put_8 rfl ?_
    refine go_iushr dX8_put_9 ?_
    refine go_sipush (v := iI 255) dX8_put_10 (by decide) ?_
    refine go_iand dX8_put_13 ?_
    refine go_istore_n dX8_put_14 (Nat.le_of_ble_eq_true rfl) rfl ?_
    refine go_iload_n dX8_put_15 rfl ?_
    refine go_if_eq (tgt := 51) dX8_put_16 (by decide) (fun h16 => ?_) (fun h16 => ?_)
    · refine go_iincI dX8_put_51 rfl (Nat.le_of_ble_eq_true rfl) rfl ?_
      refine go_goto (tgt := 3) dX8_put_54 (by decide) ?_
      simp only [bw_u hs, iI_bw0] at h16
      have k := k (σ.1 2) (σ.1 1 1)
      unfold eb at k
      rw [tset_id, if_pos h16, List.append_nil] at k
      simp only [List.set, iI_add]
      exact k _ hT
    · refine go_aload_n dX8_put_19 rfl ?_
      refine go_getI fX8_15 dX8_put_20 rfl ?_
      refine go_aload_n dX8_put_23 rfl ?_
      refine go_getR fX8_9 dX8_put_24 rfl (hR _ _ _ rfl) ?_
      refine go_alen1 dX8_put_27 rfl ?_
      refine go_icmp_ge (tgt := 51) dX8_put_28 (by decide) (fun h28 => ?_) (fun h28 => ?_)
      · exfalso
        simp only [bw_u hs, iI_bw0] at h16
        have := eb_len w s.toNat
        rw [if_neg h16] at this
        rw [hT.1] at h28
        rw [iI_ofNat, iI_le (by omega)] at h28
        omega
      · refine go_aload_n dX8_put_31 rfl ?_
        refine go_getR fX8_9 dX8_put_32 rfl (hR _ _ _ rfl) ?_
        refine go_aload_n dX8_put_35 rfl ?_
        refine go_getI fX8_15 dX8_put_36 rfl ?_
        refine go_iload_n dX8_put_39 rfl ?_
        refine go_iast dX8_put_40 rfl (by
              rw [hT.1]
              simp only [bw_u hs, iI_bw0] at h16
              have := eb_len w s.toNat
              rw [if_neg h16] at this
              exact vp_iI (by omega)) ?_
        refine go_aload_n dX8_put_41 rfl ?_
        refine go_dup dX8_put_42 rfl ?_
        refine go_getI fX8_15 dX8_put_43 rfl ?_
        refine go_iconst (v := iI 1) dX8_put_46 (by decide) ?_
        refine go_iadd dX8_put_47 ?_
        refine go_putI fX8_15 rfl dX8_put_48 rfl rfl rfl ?_
        refine go_iincI dX8_put_51 rfl (Nat.le_of_ble_eq_true rfl) rfl ?_
        refine go_goto (tgt := 3) dX8_put_54 (by decide) ?_
        simp only [bw_u hs, iI_bw0] at h16
        have hl' : (t.length : Int) < 240 := by
          have := eb_len w s.toNat
          rw [if_neg h16] at this
          omega
        have k := k (upd (σ.1 2) t.length (iI (bw w s.toNat))) (iI (t.length + 1))
        unfold eb at k
        rw [if_neg h16] at k
        simp only [List.set, iI_add, bw_u hs, sI_ne σ 2 1 _ (by decide), hT.1, iI_cl (show (0 : Int) ≤ t.length ∧ (t.length : Int) < 2147483648 by omega), Int.toNat_natCast]
        exact k _ (TC_push hT)
theorem ct_X8_put {l : Launch} {D : va_G} {cA ad : Nat → Nat} {d : Nat} {σ : AS} {K : Option Value → AS → Prop} {w : Int32} {t : List Nat} (hR : RO σ) (hT : TC σ t) (hl : t.length + (wb w).length ≤ 240) (hK : ∀ r q, TC (tset σ r q) (t ++ wb w) → K none (tset σ r q)) : Call l D cA ad d mX8_put [.ref 1, .int w] σ K := by
  refine call_go (by decide) (Nat.le_of_ble_eq_true rfl) (show Go l D cA ad d mX8_put 0 [.ref 1, .int w, .null, .null] [] σ K from ?_)
  refine go_bipush (v := iI 24) dX8_put_0 (by decide) ?_
  refine go_istore_n dX8_put_2 (Nat.le_of_ble_eq_true rfl) rfl ?_
  have hl' : t.length + ((eb w 24).length + (eb w 16).length + (eb w 8).length + (eb w 0).length) ≤ 240 := by unfold wb at hl; simp only [List.length_append] at hl; omega
  refine it_X8_put (s := 24) (t := t) (by unfold sOK; omega) hR hT (by simp; omega) (fun r q v h1 => ?_)
  refine it_X8_put (s := 16) (by unfold sOK; omega) hR h1 (by simp; omega) (fun r2 q2 v h2 => ?_)
  rw [tset_tset] at h2 ⊢
  refine it_X8_put (s := 8) (by unfold sOK; omega) hR h2 (by simp; omega) (fun r3 q3 v h3 => ?_)
  rw [tset_tset] at h3 ⊢
  refine it_X8_put (s := 0) (by unfold sOK; omega) hR h3 (by simp; omega) (fun r4 q4 v g4 => ?_)
  rw [tset_tset] at g4 ⊢
  refine go_iload_n dX8_put_3 rfl ?_
  refine go_if_lt (tgt := 57) dX8_put_4 (by decide) (fun h4 => ?_) (fun h4 => ?_)
  · refine go_vret rfl dX8_put_57 ?_
    refine hK r4 q4 ?_
    unfold wb
    simpa [List.append_assoc] using g4
  · exact absurd h4 (by decide)

theorem it_X12_put {l : Launch} {D : va_G} {cA ad : Nat → Nat} {d : Nat} {σ : AS} {K : Option Value → AS → Prop} {w : Int32} {s : Int} {t : List Nat} (hs : sOK s) (hR : RO σ) (hT : TM σ t) (hl : t.length + (eb w s.toNat).length ≤ 240) (k : ∀ r q, TM (uset σ r q) (t ++ eb w s.toNat) → Go l D cA ad d mX12_put 3 [.ref 111, .int w, .int (iI (s + -8))] [] (uset σ r q) K) : Go l D cA ad d mX12_put 3 [.ref 111, .int w, .int (iI s)] [] σ K := by
  refine go_iload_n dX12_put_3 rfl ?_
  refine go_if_lt (tgt := 49) dX12_put_4 (by decide) (fun h4 => ?_) (fun h4 => ?_)
  · exact absurd h4 (by rcases hs with rfl | rfl | rfl | rfl <;> decide)
  · refine go_iload_n dX12_put_7 rfl ?_
    refine go_iload_n dX12_put_8 rfl ?_
    refine go_ishr dX12_put_9 ?_
    refine go_sipush (v := iI 255) dX12_put_10 (by decide) ?_
    refine go_iand dX12_put_13 ?_
    refine go_if_ne (tgt := 20) dX12_put_14 (by decide) (fun h14 => ?_) (fun h14 => ?_)
    · refine go_aload_n dX12_put_20 rfl ?_
      refine go_getR fX12_9 dX12_put_21 rfl (hR _ _ _ rfl) ?_
      refine go_aload_n dX12_put_24 rfl ?_
      refine go_getI fX12_109 dX12_put_25 rfl ?_
      refine go_iload_n dX12_put_28 rfl ?_
      refine go_iload_n dX12_put_29 rfl ?_
      refine go_ishr dX12_put_30 ?_
      refine go_i2b dX12_put_31 ?_
      refine go_bast dX12_put_32 rfl (by
            rw [hT.1]
            simp only [bw_s hs, iI_bw0] at h14
            have := eb_len w s.toNat
            rw [if_neg h14] at this
            exact vp_iI (by omega)) ?_
      refine go_aload_n dX12_put_33 rfl ?_
      refine go_dup dX12_put_34 rfl ?_
      refine go_getI fX12_109 dX12_put_35 rfl ?_
      refine go_iconst (v := iI 1) dX12_put_38 (by decide) ?_
      refine go_iadd dX12_put_39 ?_
      refine go_putI fX12_109 rfl dX12_put_40 rfl rfl rfl ?_
      refine go_iincI dX12_put_43 rfl (Nat.le_of_ble_eq_true rfl) rfl ?_
      refine go_goto (tgt := 3) dX12_put_46 (by decide) ?_
      simp only [bw_s hs, iI_bw0] at h14
      have hl' : (t.length : Int) < 240 := by
        have := eb_len w s.toNat
        rw [if_neg h14] at this
        omega
      have k := k (upd (σ.1 112) t.length (sb (bw w s.toNat))) (iI (t.length + 1))
      unfold eb at k
      rw [if_neg h14] at k
      simp only [List.set, iI_add, bw_b hs, sI_ne σ 112 111 _ (by decide), hT.1, iI_cl (show (0 : Int) ≤ t.length ∧ (t.length : Int) < 2147483648 by omega), Int.toNat_natCast]
      exact k (TM_push hT)
    · refine go_goto (tgt := 43) dX12_put_17 (by decide) ?_
      refine go_iincI dX12_put_43 rfl (Nat.le_of_ble_eq_true rfl) rfl ?_
      refine go_goto (tgt := 3) dX12_put_46 (by decide) ?_
      simp only [bw_s hs, iI_bw0] at h14
      have k := k (σ.1 112) (σ.1 111 6)
      unfold eb at k
      rw [uset_id, if_pos h14, List.append_nil] at k
      simp only [List.set, iI_add]
      exact k hT
theorem ct_X12_put {l : Launch} {D : va_G} {cA ad : Nat → Nat} {d : Nat} {σ : AS} {K : Option Value → AS → Prop} {w : Int32} {t : List Nat} (hR : RO σ) (hT : TM σ t) (hl : t.length + (wb w).length ≤ 240) (hK : ∀ r q, TM (uset σ r q) (t ++ wb w) → K none (uset σ r q)) : Call l D cA ad d mX12_put [.ref 111, .int w] σ K := by
  refine call_go (by decide) (Nat.le_of_ble_eq_true rfl) (show Go l D cA ad d mX12_put 0 [.ref 111, .int w, .null] [] σ K from ?_)
  refine go_bipush (v := iI 24) dX12_put_0 (by decide) ?_
  refine go_istore_n dX12_put_2 (Nat.le_of_ble_eq_true rfl) rfl ?_
  have hl' : t.length + ((eb w 24).length + (eb w 16).length + (eb w 8).length + (eb w 0).length) ≤ 240 := by unfold wb at hl; simp only [List.length_append] at hl; omega
  refine it_X12_put (s := 24) (t := t) (by unfold sOK; omega) hR hT (by simp; omega) (fun r q h1 => ?_)
  refine it_X12_put (s := 16) (by unfold sOK; omega) hR h1 (by simp; omega) (fun r2 q2 h2 => ?_)
  rw [uset_uset] at h2 ⊢
  refine it_X12_put (s := 8) (by unfold sOK; omega) hR h2 (by simp; omega) (fun r3 q3 h3 => ?_)
  rw [uset_uset] at h3 ⊢
  refine it_X12_put (s := 0) (by unfold sOK; omega) hR h3 (by simp; omega) (fun r4 q4 g4 => ?_)
  rw [uset_uset] at g4 ⊢
  refine go_iload_n dX12_put_3 rfl ?_
  refine go_if_lt (tgt := 49) dX12_put_4 (by decide) (fun h4 => ?_) (fun h4 => ?_)
  · refine go_vret rfl dX12_put_49 ?_
    refine hK r4 q4 ?_
    unfold wb
    simpa [List.append_assoc] using g4
  · exact absurd h4 (by decide)

