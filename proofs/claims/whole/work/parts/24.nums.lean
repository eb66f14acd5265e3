/-! numbers in texts -/
def nv (t : List Nat) (p : Nat) : Nat → Int
  | 0 => 0
  | k + 1 => 10 * nv t p k + (ch t (p + k) - 48)
theorem nv_succ (t : List Nat) (p k : Nat) : nv t p (k + 1) = 10 * nv t p k + (ch t (p + k) - 48) := rfl
theorem nv_ge {t : List Nat} {p : Nat} : ∀ k : Nat, (∀ i, i < k → isD t (p + i)) → 0 ≤ nv t p k ∧ nv t p k < 10 ^ k
  | 0, _ => by unfold nv; decide
  | k + 1, h => by
    have h1 := nv_ge k (fun i hi => h i (by omega))
    have h2 := h k (by omega)
    unfold isD at h2
    unfold nv
    rw [show (10 : Int) ^ (k + 1) = 10 * 10 ^ k by rw [Int.pow_succ, Int.mul_comm]]
    omega
theorem it_X8_takeNumber {l : Launch} {D : va_G} {cA ad : Nat → Nat} {d : Nat} {σ : AS} {K : Option Value → AS → Prop} {t : List Nat} {p m : Nat} (ht : TOK t) (hR : RO σ) (hT : TC σ t) (hm : m ≤ 9) (h0 : isD t p)
  (hK1 : ∀ k, 1 ≤ k → k ≤ m → (∀ i, i < k → isD t (p + i)) → ¬ isD t (p + k) → K (some (.int (iI (nv t p k)))) (atc σ (p + k)))
  (hK2 : (∀ i, i ≤ m → isD t (p + i)) → K (some (.int (iI (-1)))) (atc σ (p + m))) : ∀ (n k : Nat), m - k < n → k ≤ m → p + k ≤ t.length → (∀ i, i < k → isD t (p + i)) → Go l D cA ad (d + 1) mX8_takeNumber 18 [.ref 1, .int (iI m), .int (iI (nv t p k)), .int (iI k)] [] (atc σ (p + k)) K := by
  have ht1 := ht.1
  intro n
  induction n with
  | zero => intro k h; omega
  | succ n ih =>
  intro k hn hkm hpk hk
  refine go_iload_n dX8_takeNumber_18 rfl ?_
  refine go_iload_n dX8_takeNumber_19 rfl ?_
  refine go_icmp_gt (tgt := 71) dX8_takeNumber_20 (by decide) (fun h20 => ?_) (fun h20 => ?_)
  · exfalso
    rw [iI_lt (by omega)] at h20
    omega
  · refine go_aload_n dX8_takeNumber_23 rfl ?_
    refine go_callV (as := []) wX8_26 dX8_takeNumber_24 rfl rfl rfl rfl (Nat.le_of_ble_eq_true rfl) (ct_X8_isOnDigit ht hR hT (by omega) (fun hd => ?_) (fun hd => ?_))
    · refine go_if_eq (tgt := 71) dX8_takeNumber_27 (by decide) (fun h27 => ?_) (fun h27 => ?_)
      · refine go_iload_n dX8_takeNumber_71 rfl ?_
        refine go_iret rfl rfl dX8_takeNumber_72 ?_
        exact hK1 k (by
          rcases Nat.eq_zero_or_pos k with q | q
          · subst q; exact absurd h0 hd
          · exact q) (by omega) hk hd
      · exact absurd h27 (by decide)
    · have hlt := isD_lt hd
      refine go_if_eq (tgt := 71) dX8_takeNumber_27 (by decide) (fun h27 => ?_) (fun h27 => ?_)
      · exact absurd h27 (by decide)
      · refine go_iload_n dX8_takeNumber_30 rfl ?_
        refine go_iload_n dX8_takeNumber_31 rfl ?_
        refine go_icmp_ne (tgt := 37) dX8_takeNumber_32 (by decide) (fun h32 => ?_) (fun h32 => ?_)
        · rw [iI_eq (by omega)] at h32
          refine go_iload_n dX8_takeNumber_37 rfl ?_
          refine go_bipush (v := iI 10) dX8_takeNumber_38 (by decide) ?_
          refine go_imul dX8_takeNumber_40 ?_
          refine go_aload_n dX8_takeNumber_41 rfl ?_
          refine go_getR fX8_9 dX8_takeNumber_42 rfl (hR _ _ _ rfl) ?_
          refine go_aload_n dX8_takeNumber_45 rfl ?_
          refine go_getI fX8_19 dX8_takeNumber_46 rfl ?_
          refine go_iald dX8_takeNumber_49 rfl (by rw [atc_at]; exact vp_iI (by omega)) ?_
          refine go_iadd dX8_takeNumber_50 ?_
          refine go_bipush (v := iI 48) dX8_takeNumber_51 (by decide) ?_
          refine go_isub dX8_takeNumber_53 ?_
          refine go_istore_n dX8_takeNumber_54 (Nat.le_of_ble_eq_true rfl) rfl ?_
          refine go_aload_n dX8_takeNumber_55 rfl ?_
          refine go_dup dX8_takeNumber_56 rfl ?_
          refine go_getI fX8_19 dX8_takeNumber_57 rfl ?_
          refine go_iconst (v := iI 1) dX8_takeNumber_60 (by decide) ?_
          refine go_iadd dX8_takeNumber_61 ?_
          refine go_putI fX8_19 rfl dX8_takeNumber_62 rfl rfl rfl ?_
          refine go_iincI dX8_takeNumber_65 rfl (Nat.le_of_ble_eq_true rfl) rfl ?_
          refine go_goto (tgt := 18) dX8_takeNumber_68 (by decide) ?_
          rw [atc_inc]
          have e : iI (nv t p k) * iI 10 + (atc σ (p + k)).1 2 ((atc σ (p + k)).1 1 2).toNatClampNeg - iI 48 = iI (nv t p (k + 1)) := by
            rw [atc_at, iI_cl (by omega), Int.toNat_natCast, TC_rd hT hlt, iI_mul, iI_add, iI_sub]
            rw [nv_succ]
            congr 1
            omega
          simp only [List.set, e, iI_add]
          exact ih (k + 1) (by omega) (by omega) (by omega) (fun i hi => by
            rcases Nat.lt_or_ge i k with q | q
            · exact hk i q
            · rw [show i = k by omega]; exact hd)
        · rw [iI_eq (by omega)] at h32
          refine go_iconst (v := iI (-1)) dX8_takeNumber_35 (by decide) ?_
          refine go_iret rfl rfl dX8_takeNumber_36 ?_
          have e : k = m := by omega
          subst e
          exact hK2 (fun i hi => by
            rcases Nat.lt_or_ge i k with q | q
            · exact hk i q
            · rw [show i = k by omega]; exact hd)
theorem ct_X8_takeNumber {l : Launch} {D : va_G} {cA ad : Nat → Nat} {d : Nat} {σ : AS} {K : Option Value → AS → Prop} {t : List Nat} {a m : Nat} (ht : TOK t) (hR : RO σ) (hT : TC σ t) (ha : a ≤ t.length) (hm : m ≤ 9) (hK0 : ¬ isD t (sk t a) → K (some (.int (iI (-1)))) (atc σ (sk t a))) (hK1 : ∀ k, 1 ≤ k → k ≤ m → (∀ i, i < k → isD t (sk t a + i)) → ¬ isD t (sk t a + k) → K (some (.int (iI (nv t (sk t a) k)))) (atc σ (sk t a + k))) (hK2 : (∀ i, i ≤ m → isD t (sk t a + i)) → K (some (.int (iI (-1)))) (atc σ (sk t a + m))) : Call l D cA ad (d + 1) mX8_takeNumber [.ref 1, .int (iI m)] (atc σ a) K := by
  have ht1 := ht.1
  have hsk := sk_le ha
  refine call_go (by decide) (Nat.le_of_ble_eq_true rfl) (show Go l D cA ad (d + 1) mX8_takeNumber 0 [.ref 1, .int (iI m), .null, .null] [] (atc σ a) K from ?_)
  refine go_aload_n dX8_takeNumber_0 rfl ?_
  refine go_callV (as := []) wX8_22 dX8_takeNumber_1 rfl rfl rfl rfl (Nat.le_of_ble_eq_true rfl) (ct_X8_look ht hR hT ha ?_)
  refine go_pop dX8_takeNumber_4 rfl ?_
  refine go_aload_n dX8_takeNumber_5 rfl ?_
  refine go_callV (as := []) wX8_26 dX8_takeNumber_6 rfl rfl rfl rfl (Nat.le_of_ble_eq_true rfl) (ct_X8_isOnDigit ht hR hT hsk (fun hd => ?_) (fun hd => ?_))
  · refine go_if_ne (tgt := 14) dX8_takeNumber_9 (by decide) (fun h9 => ?_) (fun h9 => ?_)
    · exact absurd h9 (by decide)
    · refine go_iconst (v := iI (-1)) dX8_takeNumber_12 (by decide) ?_
      refine go_iret rfl rfl dX8_takeNumber_13 ?_
      exact hK0 hd
  · have hlt := isD_lt hd
    refine go_if_ne (tgt := 14) dX8_takeNumber_9 (by decide) (fun h9 => ?_) (fun h9 => ?_)
    · refine go_iconst (v := iI 0) dX8_takeNumber_14 (by decide) ?_
      refine go_istore_n dX8_takeNumber_15 (Nat.le_of_ble_eq_true rfl) rfl ?_
      refine go_iconst (v := iI 0) dX8_takeNumber_16 (by decide) ?_
      refine go_istore_n dX8_takeNumber_17 (Nat.le_of_ble_eq_true rfl) rfl ?_
      exact it_X8_takeNumber (p := sk t a) ht hR hT hm hd hK1 hK2 (m + 1) 0 (by omega) (by omega) (by omega) (fun i hi => by omega)
    · exact absurd h9 (by decide)

/-! the model's reader: msa σ a f = at a, fault f -/
def msa (σ : AS) (a : Nat) (f : Int) : AS := sI σ 111 (upd (upd (σ.1 111) 10 (iI a)) 11 (iI f))
theorem msa_at (σ : AS) (a : Nat) (f : Int) : (msa σ a f).1 111 10 = iI a := by unfold msa; rw [sI_same, upd_ne _ _ _ _ (by decide), upd_same]
theorem msa_ft (σ : AS) (a : Nat) (f : Int) : (msa σ a f).1 111 11 = iI f := by unfold msa; rw [sI_same, upd_same]
theorem msa_fd (σ : AS) (a j : Nat) (f : Int) (h1 : j ≠ 10) (h2 : j ≠ 11) : (msa σ a f).1 111 j = σ.1 111 j := by unfold msa; rw [sI_same, upd_ne _ _ _ _ h2, upd_ne _ _ _ _ h1]
theorem msa_ne (σ : AS) (a k : Nat) (f : Int) (h : k ≠ 111) : (msa σ a f).1 k = σ.1 k := by unfold msa; rw [sI_ne _ _ _ _ h]
theorem msa_msa (σ : AS) (a b : Nat) (f g : Int) : msa (msa σ a f) b g = msa σ b g := by
  unfold msa
  rw [sI_same, upd_comm _ 11 10 _ _ (by decide), upd_upd, upd_upd, sI_sI]
theorem msa_inc (σ : AS) (a : Nat) (f : Int) : sI (msa σ a f) 111 (upd ((msa σ a f).1 111) 10 ((msa σ a f).1 111 10 + iI 1)) = msa σ (a + 1) f := by
  rw [msa_at, iI_add, show ((a : Int) + 1) = ((a + 1 : Nat) : Int) by omega]
  unfold msa
  rw [sI_same, upd_comm _ 11 10 _ _ (by decide), upd_upd, sI_sI]
theorem msa_dec (σ : AS) (a : Nat) (f : Int) : sI (msa σ (a + 1) f) 111 (upd ((msa σ (a + 1) f).1 111) 10 ((msa σ (a + 1) f).1 111 10 - iI 1)) = msa σ a f := by
  rw [msa_at, iI_sub, show (((a + 1 : Nat) : Int) - 1) = ((a : Nat) : Int) by omega]
  unfold msa
  rw [sI_same, upd_comm _ 11 10 _ _ (by decide), upd_upd, sI_sI]
theorem msa_fl (σ : AS) (a : Nat) (f : Int) : sI (msa σ a f) 111 (upd ((msa σ a f).1 111) 11 ((msa σ a f).1 111 10)) = msa σ a a := by
  rw [msa_at]
  unfold msa
  rw [sI_same, upd_upd, sI_sI]
theorem RO_msa {σ : AS} {a : Nat} {f : Int} (h : RO σ) : RO (msa σ a f) := h
/-- the text that is read: bytes at b of the row tx -/
def TX (σ : AS) (tx b : Nat) (t : List Nat) : Prop := σ.2.2 111 5 = some tx ∧ (tx = 112 ∧ b + t.length ≤ 240 ∨ tx = 113 ∧ b + t.length ≤ 960) ∧ σ.1 111 8 = iI b ∧ σ.1 111 9 = iI t.length ∧ ∀ i c : Nat, t[i]? = some c → σ.1 tx (b + i) = sb c
theorem TX_sh {σ : AS} {tx b : Nat} {t : List Nat} (h : TX σ tx b t) : ∃ n, sh[tx]? = some (2, n) ∧ b + t.length ≤ n ∧ n ≤ 960 := by
  rcases h.2.1 with ⟨h1, h2⟩ | ⟨h1, h2⟩ <;> subst h1
  · exact ⟨240, rfl, h2, by decide⟩
  · exact ⟨960, rfl, h2, by decide⟩
theorem TX_ne {σ : AS} {tx b : Nat} {t : List Nat} (h : TX σ tx b t) : tx ≠ 111 := by rcases h.2.1 with ⟨h1, -⟩ | ⟨h1, -⟩ <;> omega
theorem sb_toInt {c : Nat} (h : c ≤ 255) : (sb c).toInt = if c < 128 then (c : Int) else (c : Int) - 256 := by unfold sb; rw [iI_toInt (by split <;> omega) (by split <;> omega)]
theorem sb_and {c : Nat} (h : c ≤ 255) : sb c &&& iI 255 = iI c := by
  rw [pk_and _ (m := iI 255) 8 (by decide), nI_iI]
  congr 1
  have h1 := sb_toInt h
  rcases toInt_nat (sb c) with ⟨h2, -⟩ | ⟨h2, -⟩ <;> rw [h1] at h2 <;> split at h2 <;> omega
theorem sb_eq {c : Nat} {z : Int} (h : c ≤ 255) (hz : 0 ≤ z ∧ z < 128) : sb c = iI z ↔ (c : Int) = z := by
  unfold sb
  rw [iI_eq (by split <;> omega)]
  split <;> omega
theorem TX_rd {σ : AS} {tx b : Nat} {t : List Nat} {a p : Nat} {f : Int} (h : TX σ tx b t) (hp : p < t.length) : (msa σ a f).1 tx (b + p) = sb (t[p]) := by
  rw [msa_ne _ _ _ _ (TX_ne h)]
  exact h.2.2.2.2 p _ (List.getElem?_eq_getElem hp)
theorem it_X12_look {l : Launch} {D : va_G} {cA ad : Nat → Nat} {d : Nat} {σ : AS} {K : Option Value → AS → Prop} {t : List Nat} {tx b : Nat} {f : Int} (ht : TOK t) (hX : TX σ tx b t) : ∀ (n a : Nat), t.length - a < n → a ≤ t.length → K (some (.int (iI (ch t (sk t a))))) (msa σ (sk t a) f) → Go l D cA ad d mX12_look 0 [.ref 111] [] (msa σ a f) K := by
  have ht1 := ht.1
  obtain ⟨nx, hsh, hnx, hnx9⟩ := TX_sh hX
  intro n
  induction n with
  | zero => intro a h; omega
  | succ n ih =>
  intro a hn ha hK
  refine go_aload_n dX12_look_0 rfl ?_
  refine go_getI fX12_119 dX12_look_1 rfl ?_
  refine go_aload_n dX12_look_4 rfl ?_
  refine go_getI fX12_122 dX12_look_5 rfl ?_
  refine go_icmp_ge (tgt := 43) dX12_look_8 (by decide) (fun h8 => ?_) (fun h8 => ?_)
  · simp only [msa_at, msa_fd _ _ 8 _ (by decide) (by decide), msa_fd _ _ 9 _ (by decide) (by decide), hX.2.2.1, hX.2.2.2.1] at h8
    rw [iI_le (by omega)] at h8
    refine go_aload_n dX12_look_43 rfl ?_
    refine go_getI fX12_119 dX12_look_44 rfl ?_
    refine go_aload_n dX12_look_47 rfl ?_
    refine go_getI fX12_122 dX12_look_48 rfl ?_
    refine go_icmp_ge (tgt := 75) dX12_look_51 (by decide) (fun h51 => ?_) (fun h51 => ?_)
    · simp only [msa_at, msa_fd _ _ 8 _ (by decide) (by decide), msa_fd _ _ 9 _ (by decide) (by decide), hX.2.2.1, hX.2.2.2.1] at h51
      rw [iI_le (by omega)] at h51
      refine go_iconst (v := iI (-1)) dX12_look_75 (by decide) ?_
      refine go_iret rfl rfl dX12_look_76 ?_
      rw [sk_no (by rw [List.getElem?_eq_none (by omega)]; simp), ch_out (by omega)] at hK
      exact hK
    · simp only [msa_at, msa_fd _ _ 8 _ (by decide) (by decide), msa_fd _ _ 9 _ (by decide) (by decide), hX.2.2.1, hX.2.2.2.1] at h51
      rw [iI_le (by omega)] at h51
      refine go_aload_n dX12_look_54 rfl ?_
      refine go_getR fX12_23 dX12_look_55 rfl hX.1 ?_
      refine go_aload_n dX12_look_58 rfl ?_
      refine go_getI fX12_125 dX12_look_59 rfl ?_
      refine go_aload_n dX12_look_62 rfl ?_
      refine go_getI fX12_119 dX12_look_63 rfl ?_
      refine go_iadd dX12_look_66 ?_
      refine go_bald dX12_look_67 hsh (by
            rw [msa_at, msa_fd _ _ 8 _ (by decide) (by decide), hX.2.2.1, iI_add]
            exact vp_iI (by omega) (by omega)) ?_
      refine go_sipush (v := iI 255) dX12_look_68 (by decide) ?_
      refine go_iand dX12_look_71 ?_
      refine go_goto (tgt := 76) dX12_look_72 (by decide) ?_
      refine go_iret rfl rfl dX12_look_76 ?_
      omega
  · simp only [msa_at, msa_fd _ _ 8 _ (by decide) (by decide), msa_fd _ _ 9 _ (by decide) (by decide), hX.2.2.1, hX.2.2.2.1] at h8
    rw [iI_le (by omega)] at h8
    refine go_aload_n dX12_look_11 rfl ?_
    refine go_getR fX12_23 dX12_look_12 rfl hX.1 ?_
    refine go_aload_n dX12_look_15 rfl ?_
    refine go_getI fX12_125 dX12_look_16 rfl ?_
    refine go_aload_n dX12_look_19 rfl ?_
    refine go_getI fX12_119 dX12_look_20 rfl ?_
    refine go_iadd dX12_look_23 ?_
    refine go_bald dX12_look_24 hsh (by
          rw [msa_at, msa_fd _ _ 8 _ (by decide) (by decide), hX.2.2.1, iI_add]
          exact vp_iI (by omega) (by omega)) ?_
    refine go_bipush (v := iI 32) dX12_look_25 (by decide) ?_
    refine go_icmp_ne (tgt := 43) dX12_look_27 (by decide) (fun h27 => ?_) (fun h27 => ?_)
    · rw [msa_at, msa_fd _ _ 8 _ (by decide) (by decide), hX.2.2.1, iI_add, iI_cl (by omega), show (((b : Int) + (a : Int)).toNat) = b + a by omega, TX_rd hX (by omega)] at h27
      have hb2 := ht.2 _ (List.getElem_mem (l := t) (n := a) (by omega))
      rw [sb_eq hb2.2 (by decide)] at h27
      refine go_aload_n dX12_look_43 rfl ?_
      refine go_getI fX12_119 dX12_look_44 rfl ?_
      refine go_aload_n dX12_look_47 rfl ?_
      refine go_getI fX12_122 dX12_look_48 rfl ?_
      refine go_icmp_ge (tgt := 75) dX12_look_51 (by decide) (fun h51 => ?_) (fun h51 => ?_)
      · simp only [msa_at, msa_fd _ _ 8 _ (by decide) (by decide), msa_fd _ _ 9 _ (by decide) (by decide), hX.2.2.1, hX.2.2.2.1] at h51
        rw [iI_le (by omega)] at h51
        refine go_iconst (v := iI (-1)) dX12_look_75 (by decide) ?_
        refine go_iret rfl rfl dX12_look_76 ?_
        omega
      · simp only [msa_at, msa_fd _ _ 8 _ (by decide) (by decide), msa_fd _ _ 9 _ (by decide) (by decide), hX.2.2.1, hX.2.2.2.1] at h51
        rw [iI_le (by omega)] at h51
        refine go_aload_n dX12_look_54 rfl ?_
        refine go_getR fX12_23 dX12_look_55 rfl hX.1 ?_
        refine go_aload_n dX12_look_58 rfl ?_
        refine go_getI fX12_125 dX12_look_59 rfl ?_
        refine go_aload_n dX12_look_62 rfl ?_
        refine go_getI fX12_119 dX12_look_63 rfl ?_
        refine go_iadd dX12_look_66 ?_
        refine go_bald dX12_look_67 hsh (by
              rw [msa_at, msa_fd _ _ 8 _ (by decide) (by decide), hX.2.2.1, iI_add]
              exact vp_iI (by omega) (by omega)) ?_
        refine go_sipush (v := iI 255) dX12_look_68 (by decide) ?_
        refine go_iand dX12_look_71 ?_
        refine go_goto (tgt := 76) dX12_look_72 (by decide) ?_
        refine go_iret rfl rfl dX12_look_76 ?_
        rw [sk_no (by rw [List.getElem?_eq_getElem (by omega)]; intro q; exact h27 (by have := Option.some.inj q; omega)), ch_in (List.getElem?_eq_getElem (by omega))] at hK
        rw [msa_at, msa_fd _ _ 8 _ (by decide) (by decide), hX.2.2.1, iI_add, iI_cl (by omega), show (((b : Int) + (a : Int)).toNat) = b + a by omega, TX_rd hX (by omega), sb_and hb2.2]
        exact hK
    · rw [msa_at, msa_fd _ _ 8 _ (by decide) (by decide), hX.2.2.1, iI_add, iI_cl (by omega), show (((b : Int) + (a : Int)).toNat) = b + a by omega, TX_rd hX (by omega)] at h27
      have hb2 := ht.2 _ (List.getElem_mem (l := t) (n := a) (by omega))
      rw [sb_eq hb2.2 (by decide)] at h27
      refine go_aload_n dX12_look_30 rfl ?_
      refine go_dup dX12_look_31 rfl ?_
      refine go_getI fX12_119 dX12_look_32 rfl ?_
      refine go_iconst (v := iI 1) dX12_look_35 (by decide) ?_
      refine go_iadd dX12_look_36 ?_
      refine go_putI fX12_119 rfl dX12_look_37 rfl rfl rfl ?_
      refine go_goto (tgt := 0) dX12_look_40 (by decide) ?_
      rw [msa_inc]
      exact ih (a + 1) (by omega) (by omega) (by rw [← sk_sp (by rw [List.getElem?_eq_getElem (by omega)]; congr 1; omega)]; exact hK)
theorem ct_X12_look {l : Launch} {D : va_G} {cA ad : Nat → Nat} {d : Nat} {σ : AS} {K : Option Value → AS → Prop} {t : List Nat} {tx b a : Nat} {f : Int} (ht : TOK t) (hX : TX σ tx b t) (ha : a ≤ t.length) (hK : K (some (.int (iI (ch t (sk t a))))) (msa σ (sk t a) f)) : Call l D cA ad d mX12_look [.ref 111] (msa σ a f) K := by
  refine call_go (by decide) (Nat.le_of_ble_eq_true rfl) (show Go l D cA ad d mX12_look 0 [.ref 111] [] (msa σ a f) K from ?_)
  exact it_X12_look ht hX (t.length - a + 1) a (by omega) ha hK

theorem ct_X12_fails {l : Launch} {D : va_G} {cA ad : Nat → Nat} {d : Nat} {σ : AS} {K : Option Value → AS → Prop} {a : Nat} (hK : K (some (.int (iI 0))) (msa σ a a)) : Call l D cA ad d mX12_fails [.ref 111] (msa σ a (-1)) K := by
  refine call_go (by decide) (Nat.le_of_ble_eq_true rfl) (show Go l D cA ad d mX12_fails 0 [.ref 111] [] (msa σ a (-1)) K from ?_)
  refine go_aload_n dX12_fails_0 rfl ?_
  refine go_getI fX12_128 dX12_fails_1 rfl ?_
  refine go_iconst (v := iI (-1)) dX12_fails_4 (by decide) ?_
  refine go_icmp_ne (tgt := 16) dX12_fails_5 (by decide) (fun h5 => ?_) (fun h5 => ?_)
  · rw [msa_ft] at h5
    exact absurd rfl h5
  · refine go_aload_n dX12_fails_8 rfl ?_
    refine go_aload_n dX12_fails_9 rfl ?_
    refine go_getI fX12_119 dX12_fails_10 rfl ?_
    refine go_putI fX12_128 rfl dX12_fails_13 rfl rfl rfl ?_
    refine go_iconst (v := iI 0) dX12_fails_16 (by decide) ?_
    refine go_iret rfl rfl dX12_fails_17 ?_
    rw [msa_fl]
    exact hK

theorem ct_X12_fails2 {l : Launch} {D : va_G} {cA ad : Nat → Nat} {d : Nat} {σ : AS} {K : Option Value → AS → Prop} {a b : Nat} (hb : b ≤ 1000) (hK : K (some (.int (iI 0))) (msa σ a b)) : Call l D cA ad d mX12_fails [.ref 111] (msa σ a b) K := by
  refine call_go (by decide) (Nat.le_of_ble_eq_true rfl) (show Go l D cA ad d mX12_fails 0 [.ref 111] [] (msa σ a b) K from ?_)
  refine go_aload_n dX12_fails_0 rfl ?_
  refine go_getI fX12_128 dX12_fails_1 rfl ?_
  refine go_iconst (v := iI (-1)) dX12_fails_4 (by decide) ?_
  refine go_icmp_ne (tgt := 16) dX12_fails_5 (by decide) (fun h5 => ?_) (fun h5 => ?_)
  · refine go_iconst (v := iI 0) dX12_fails_16 (by decide) ?_
    refine go_iret rfl rfl dX12_fails_17 ?_
    exact hK
  · exfalso
    rw [msa_ft, iI_eq (by omega)] at h5
    omega

theorem ct_X12_isDigit {l : Launch} {D : va_G} {cA ad : Nat → Nat} {d : Nat} {σ : AS} {K : Option Value → AS → Prop} {t : List Nat} {tx b a : Nat} {f : Int} (ht : TOK t) (hX : TX σ tx b t) (ha : a ≤ t.length) (hK1 : ¬ isD t a → K (some (.int (iI 0))) (msa σ a f)) (hK2 : isD t a → K (some (.int (iI 1))) (msa σ a f)) : Call l D cA ad d mX12_isDigit [.ref 111] (msa σ a f) K := by
  have ht1 := ht.1
  obtain ⟨nx, hsh, hnx, hnx9⟩ := TX_sh hX
  refine call_go (by decide) (Nat.le_of_ble_eq_true rfl) (show Go l D cA ad d mX12_isDigit 0 [.ref 111] [] (msa σ a f) K from ?_)
  refine go_aload_n dX12_isDigit_0 rfl ?_
  refine go_getI fX12_119 dX12_isDigit_1 rfl ?_
  refine go_aload_n dX12_isDigit_4 rfl ?_
  refine go_getI fX12_122 dX12_isDigit_5 rfl ?_
  refine go_icmp_ge (tgt := 53) dX12_isDigit_8 (by decide) (fun h8 => ?_) (fun h8 => ?_)
  · simp only [msa_at, msa_fd _ _ 8 _ (by decide) (by decide), msa_fd _ _ 9 _ (by decide) (by decide), hX.2.2.1, hX.2.2.2.1] at h8
    rw [iI_le (by omega)] at h8
    refine go_iconst (v := iI 0) dX12_isDigit_53 (by decide) ?_
    refine go_iret rfl rfl dX12_isDigit_54 ?_
    first | exact hK2 (by unfold isD; rw [hc2]; split at h27 <;> omega) | exact hK1 (by unfold isD; rw [hc2]; split at h27 <;> omega) | exact hK1 (by unfold isD; rw [ch_out (by omega)]; omega)
  · simp only [msa_at, msa_fd _ _ 8 _ (by decide) (by decide), msa_fd _ _ 9 _ (by decide) (by decide), hX.2.2.1, hX.2.2.2.1] at h8
    rw [iI_le (by omega)] at h8
    refine go_aload_n dX12_isDigit_11 rfl ?_
    refine go_getR fX12_23 dX12_isDigit_12 rfl hX.1 ?_
    refine go_aload_n dX12_isDigit_15 rfl ?_
    refine go_getI fX12_125 dX12_isDigit_16 rfl ?_
    refine go_aload_n dX12_isDigit_19 rfl ?_
    refine go_getI fX12_119 dX12_isDigit_20 rfl ?_
    refine go_iadd dX12_isDigit_23 ?_
    refine go_bald dX12_isDigit_24 hsh (by
          rw [msa_at, msa_fd _ _ 8 _ (by decide) (by decide), hX.2.2.1, iI_add]
          exact vp_iI (by omega) (by omega)) ?_
    refine go_bipush (v := iI 48) dX12_isDigit_25 (by decide) ?_
    refine go_icmp_lt (tgt := 53) dX12_isDigit_27 (by decide) (fun h27 => ?_) (fun h27 => ?_)
    · rw [msa_at, msa_fd _ _ 8 _ (by decide) (by decide), hX.2.2.1, iI_add, iI_cl (by omega), show (((b : Int) + (a : Int)).toNat) = b + a by omega, TX_rd hX (by omega)] at h27
      have hb2 := ht.2 _ (List.getElem_mem (l := t) (n := a) (by omega))
      have hs2 := sb_toInt hb2.2
      have hc2 := ch_in (List.getElem?_eq_getElem (l := t) (i := a) (by omega))
      rw [Int32.lt_iff_toInt_lt, hs2, iI_toInt (by decide) (by decide)] at h27
      refine go_iconst (v := iI 0) dX12_isDigit_53 (by decide) ?_
      refine go_iret rfl rfl dX12_isDigit_54 ?_
      first | exact hK2 (by unfold isD; rw [hc2]; split at h27 <;> omega) | exact hK1 (by unfold isD; rw [hc2]; split at h27 <;> omega) | exact hK1 (by unfold isD; rw [ch_out (by omega)]; omega)
    · rw [msa_at, msa_fd _ _ 8 _ (by decide) (by decide), hX.2.2.1, iI_add, iI_cl (by omega), show (((b : Int) + (a : Int)).toNat) = b + a by omega, TX_rd hX (by omega)] at h27
      have hb2 := ht.2 _ (List.getElem_mem (l := t) (n := a) (by omega))
      have hs2 := sb_toInt hb2.2
      have hc2 := ch_in (List.getElem?_eq_getElem (l := t) (i := a) (by omega))
      rw [Int32.lt_iff_toInt_lt, hs2, iI_toInt (by decide) (by decide)] at h27
      refine go_aload_n dX12_isDigit_30 rfl ?_
      refine go_getR fX12_23 dX12_isDigit_31 rfl hX.1 ?_
      refine go_aload_n dX12_isDigit_34 rfl ?_
      refine go_getI fX12_125 dX12_isDigit_35 rfl ?_
      refine go_aload_n dX12_isDigit_38 rfl ?_
      refine go_getI fX12_119 dX12_isDigit_39 rfl ?_
      refine go_iadd dX12_isDigit_42 ?_
      refine go_bald dX12_isDigit_43 hsh (by
            rw [msa_at, msa_fd _ _ 8 _ (by decide) (by decide), hX.2.2.1, iI_add]
            exact vp_iI (by omega) (by omega)) ?_
      refine go_bipush (v := iI 57) dX12_isDigit_44 (by decide) ?_
      refine go_icmp_gt (tgt := 53) dX12_isDigit_46 (by decide) (fun h46 => ?_) (fun h46 => ?_)
      · rw [msa_at, msa_fd _ _ 8 _ (by decide) (by decide), hX.2.2.1, iI_add, iI_cl (by omega), show (((b : Int) + (a : Int)).toNat) = b + a by omega, TX_rd hX (by omega), Int32.lt_iff_toInt_lt, hs2, iI_toInt (by decide) (by decide)] at h46
        refine go_iconst (v := iI 0) dX12_isDigit_53 (by decide) ?_
        refine go_iret rfl rfl dX12_isDigit_54 ?_
        first | exact hK2 (by unfold isD; rw [hc2]; split at h27 <;> omega) | exact hK1 (by unfold isD; rw [hc2]; split at h27 <;> omega) | exact hK1 (by unfold isD; rw [ch_out (by omega)]; omega)
      · rw [msa_at, msa_fd _ _ 8 _ (by decide) (by decide), hX.2.2.1, iI_add, iI_cl (by omega), show (((b : Int) + (a : Int)).toNat) = b + a by omega, TX_rd hX (by omega), Int32.lt_iff_toInt_lt, hs2, iI_toInt (by decide) (by decide)] at h46
        refine go_iconst (v := iI 1) dX12_isDigit_49 (by decide) ?_
        refine go_goto (tgt := 54) dX12_isDigit_50 (by decide) ?_
        refine go_iret rfl rfl dX12_isDigit_54 ?_
        first | exact hK2 (by unfold isD; rw [hc2]; split at h27 <;> omega) | exact hK1 (by unfold isD; rw [hc2]; split at h27 <;> omega) | exact hK1 (by unfold isD; rw [ch_out (by omega)]; omega)

theorem ct_X12_here {l : Launch} {D : va_G} {cA ad : Nat → Nat} {d : Nat} {σ : AS} {K : Option Value → AS → Prop} {t : List Nat} {tx b a : Nat} {f : Int} (ht : TOK t) (hX : TX σ tx b t) (ha : a ≤ t.length) (hK : K (some (.int (iI (ch t a)))) (msa σ a f)) : Call l D cA ad d mX12_here [.ref 111] (msa σ a f) K := by
  have ht1 := ht.1
  obtain ⟨nx, hsh, hnx, hnx9⟩ := TX_sh hX
  refine call_go (by decide) (Nat.le_of_ble_eq_true rfl) (show Go l D cA ad d mX12_here 0 [.ref 111] [] (msa σ a f) K from ?_)
  refine go_aload_n dX12_here_0 rfl ?_
  refine go_getI fX12_119 dX12_here_1 rfl ?_
  refine go_aload_n dX12_here_4 rfl ?_
  refine go_getI fX12_122 dX12_here_5 rfl ?_
  refine go_icmp_ge (tgt := 32) dX12_here_8 (by decide) (fun h8 => ?_) (fun h8 => ?_)
  · simp only [msa_at, msa_fd _ _ 8 _ (by decide) (by decide), msa_fd _ _ 9 _ (by decide) (by decide), hX.2.2.1, hX.2.2.2.1] at h8
    rw [iI_le (by omega)] at h8
    refine go_iconst (v := iI (-1)) dX12_here_32 (by decide) ?_
    refine go_iret rfl rfl dX12_here_33 ?_
    first | (rw [ch_out (by omega)] at hK; exact hK) | (rw [msa_at, msa_fd _ _ 8 _ (by decide) (by decide), hX.2.2.1, iI_add, iI_cl (by omega), show (((b : Int) + (a : Int)).toNat) = b + a by omega, TX_rd hX (by omega), sb_and (ht.2 _ (List.getElem_mem (l := t) (n := a) (by omega))).2]; rw [ch_in (List.getElem?_eq_getElem (by omega))] at hK; exact hK)
  · simp only [msa_at, msa_fd _ _ 8 _ (by decide) (by decide), msa_fd _ _ 9 _ (by decide) (by decide), hX.2.2.1, hX.2.2.2.1] at h8
    rw [iI_le (by omega)] at h8
    refine go_aload_n dX12_here_11 rfl ?_
    refine go_getR fX12_23 dX12_here_12 rfl hX.1 ?_
    refine go_aload_n dX12_here_15 rfl ?_
    refine go_getI fX12_125 dX12_here_16 rfl ?_
    refine go_aload_n dX12_here_19 rfl ?_
    refine go_getI fX12_119 dX12_here_20 rfl ?_
    refine go_iadd dX12_here_23 ?_
    refine go_bald dX12_here_24 hsh (by
          rw [msa_at, msa_fd _ _ 8 _ (by decide) (by decide), hX.2.2.1, iI_add]
          exact vp_iI (by omega) (by omega)) ?_
    refine go_sipush (v := iI 255) dX12_here_25 (by decide) ?_
    refine go_iand dX12_here_28 ?_
    refine go_goto (tgt := 33) dX12_here_29 (by decide) ?_
    refine go_iret rfl rfl dX12_here_33 ?_
    first | (rw [ch_out (by omega)] at hK; exact hK) | (rw [msa_at, msa_fd _ _ 8 _ (by decide) (by decide), hX.2.2.1, iI_add, iI_cl (by omega), show (((b : Int) + (a : Int)).toNat) = b + a by omega, TX_rd hX (by omega), sb_and (ht.2 _ (List.getElem_mem (l := t) (n := a) (by omega))).2]; rw [ch_in (List.getElem?_eq_getElem (by omega))] at hK; exact hK)

theorem ct_X12_takes {l : Launch} {D : va_G} {cA ad : Nat → Nat} {d : Nat} {σ : AS} {K : Option Value → AS → Prop} {t : List Nat} {tx b a : Nat} {c : Int} (ht : TOK t) (hX : TX σ tx b t) (ha : a ≤ t.length) (hc : 0 ≤ c ∧ c ≤ 255) (hK1 : ch t (sk t a) ≠ c → K (some (.int (iI 0))) (msa σ (sk t a) (sk t a))) (hK2 : ch t (sk t a) = c → K (some (.int (iI 1))) (msa σ (sk t a + 1) (-1))) : Call l D cA ad (d + 1) mX12_takes [.ref 111, .int (iI c)] (msa σ a (-1)) K := by
  refine call_go (by decide) (Nat.le_of_ble_eq_true rfl) (show Go l D cA ad (d + 1) mX12_takes 0 [.ref 111, .int (iI c)] [] (msa σ a (-1)) K from ?_)
  refine go_aload_n dX12_takes_0 rfl ?_
  refine go_getI fX12_128 dX12_takes_1 rfl ?_
  refine go_iconst (v := iI (-1)) dX12_takes_4 (by decide) ?_
  refine go_icmp_ne (tgt := 16) dX12_takes_5 (by decide) (fun h5 => ?_) (fun h5 => ?_)
  · rw [msa_ft] at h5
    exact absurd rfl h5
  · refine go_aload_n dX12_takes_8 rfl ?_
    refine go_callV (as := []) wX12_138 dX12_takes_9 rfl rfl rfl rfl (Nat.le_of_ble_eq_true rfl) (ct_X12_look ht hX ha ?_)
    refine go_iload_n dX12_takes_12 rfl ?_
    refine go_icmp_eq (tgt := 21) dX12_takes_13 (by decide) (fun h13 => ?_) (fun h13 => ?_)
    · have := ch_lt ht (sk t a)
      rw [iI_eq (by omega)] at h13
      refine go_aload_n dX12_takes_21 rfl ?_
      refine go_dup dX12_takes_22 rfl ?_
      refine go_getI fX12_119 dX12_takes_23 rfl ?_
      refine go_iconst (v := iI 1) dX12_takes_26 (by decide) ?_
      refine go_iadd dX12_takes_27 ?_
      refine go_putI fX12_119 rfl dX12_takes_28 rfl rfl rfl ?_
      refine go_iconst (v := iI 1) dX12_takes_31 (by decide) ?_
      refine go_iret rfl rfl dX12_takes_32 ?_
      rw [msa_inc]
      exact hK2 h13
    · have := ch_lt ht (sk t a)
      rw [iI_eq (by omega)] at h13
      refine go_aload_n dX12_takes_16 rfl ?_
      refine go_callV (as := []) wX12_134 dX12_takes_17 rfl rfl rfl rfl (Nat.le_of_ble_eq_true rfl) (ct_X12_fails ?_)
      refine go_iret rfl rfl dX12_takes_20 ?_
      exact hK1 h13

theorem ct_X12_takes2 {l : Launch} {D : va_G} {cA ad : Nat → Nat} {d : Nat} {σ : AS} {K : Option Value → AS → Prop} {t : List Nat} {a b : Nat} {c : Int} (hb : b ≤ 1000) (hK : K (some (.int (iI 0))) (msa σ a b)) : Call l D cA ad (d + 1) mX12_takes [.ref 111, .int (iI c)] (msa σ a b) K := by
  refine call_go (by decide) (Nat.le_of_ble_eq_true rfl) (show Go l D cA ad (d + 1) mX12_takes 0 [.ref 111, .int (iI c)] [] (msa σ a b) K from ?_)
  refine go_aload_n dX12_takes_0 rfl ?_
  refine go_getI fX12_128 dX12_takes_1 rfl ?_
  refine go_iconst (v := iI (-1)) dX12_takes_4 (by decide) ?_
  refine go_icmp_ne (tgt := 16) dX12_takes_5 (by decide) (fun h5 => ?_) (fun h5 => ?_)
  · refine go_aload_n dX12_takes_16 rfl ?_
    refine go_callV (as := []) wX12_134 dX12_takes_17 rfl rfl rfl rfl (Nat.le_of_ble_eq_true rfl) (ct_X12_fails2 hb ?_)
    refine go_iret rfl rfl dX12_takes_20 ?_
    exact hK
  · exfalso
    rw [msa_ft, iI_eq (by omega)] at h5
    omega

theorem ct_X12_digit {l : Launch} {D : va_G} {cA ad : Nat → Nat} {d : Nat} {σ : AS} {K : Option Value → AS → Prop} {t : List Nat} {tx b a : Nat} (ht : TOK t) (hX : TX σ tx b t) (ha : a ≤ t.length) (hK1 : ¬ isD t (sk t a) → K (some (.int (iI 0))) (msa σ (sk t a) (sk t a))) (hK2 : isD t (sk t a) → K (some (.int (iI (ch t (sk t a) - 48)))) (msa σ (sk t a + 1) (-1))) : Call l D cA ad (d + 1) mX12_digit [.ref 111] (msa σ a (-1)) K := by
  have hsk := sk_le ha
  refine call_go (by decide) (Nat.le_of_ble_eq_true rfl) (show Go l D cA ad (d + 1) mX12_digit 0 [.ref 111, .null] [] (msa σ a (-1)) K from ?_)
  refine go_aload_n dX12_digit_0 rfl ?_
  refine go_callV (as := []) wX12_138 dX12_digit_1 rfl rfl rfl rfl (Nat.le_of_ble_eq_true rfl) (ct_X12_look ht hX ha ?_)
  refine go_istore_n dX12_digit_4 (Nat.le_of_ble_eq_true rfl) rfl ?_
  refine go_aload_n dX12_digit_5 rfl ?_
  refine go_callV (as := []) wX12_168 dX12_digit_6 rfl rfl rfl rfl (Nat.le_of_ble_eq_true rfl) (ct_X12_isDigit ht hX hsk (fun hd => ?_) (fun hd => ?_))
  · refine go_if_ne (tgt := 19) dX12_digit_9 (by decide) (fun h9 => ?_) (fun h9 => ?_)
    · exact absurd h9 (by decide)
    · refine go_aload_n dX12_digit_12 rfl ?_
      refine go_callV (as := []) wX12_134 dX12_digit_13 rfl rfl rfl rfl (Nat.le_of_ble_eq_true rfl) (ct_X12_fails ?_)
      refine go_pop dX12_digit_16 rfl ?_
      refine go_iconst (v := iI 0) dX12_digit_17 (by decide) ?_
      refine go_iret rfl rfl dX12_digit_18 ?_
      exact hK1 hd
  · have hlt := isD_lt hd
    refine go_if_ne (tgt := 19) dX12_digit_9 (by decide) (fun h9 => ?_) (fun h9 => ?_)
    · refine go_aload_n dX12_digit_19 rfl ?_
      refine go_dup dX12_digit_20 rfl ?_
      refine go_getI fX12_119 dX12_digit_21 rfl ?_
      refine go_iconst (v := iI 1) dX12_digit_24 (by decide) ?_
      refine go_iadd dX12_digit_25 ?_
      refine go_putI fX12_119 rfl dX12_digit_26 rfl rfl rfl ?_
      refine go_iload_n dX12_digit_29 rfl ?_
      refine go_bipush (v := iI 48) dX12_digit_30 (by decide) ?_
      refine go_isub dX12_digit_32 ?_
      refine go_iret rfl rfl dX12_digit_33 ?_
      rw [msa_inc, iI_sub]
      exact hK2 hd
    · exact absurd h9 (by decide)

