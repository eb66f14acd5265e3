/-! a whole town -/
def w1 (s : PS) (k : Nat) : Bool := (List.range k).all (fun i => decide (s.2.2.2.2.1 i 0 ≤ s.2.2.2.2.1 i 1))
def w2 (s : PS) (k : Nat) : Bool := (List.range k).all (fun i => decide (s.2.2.2.2.2 i 0 < s.2.1 ∧ s.2.2.2.2.2 i 1 < s.2.1 ∧ s.2.2.2.2.2 i 0 ≠ s.2.2.2.2.2 i 1))
def whB (s : PS) : Bool := decide (0 < s.2.1) && w1 s s.2.1 && w2 s s.2.2.1
theorem w1_succ (s : PS) (k : Nat) : w1 s (k + 1) = (w1 s k && decide (s.2.2.2.2.1 k 0 ≤ s.2.2.2.2.1 k 1)) := by unfold w1; rw [List.range_succ, List.all_append]; simp
theorem w2_succ (s : PS) (k : Nat) : w2 s (k + 1) = (w2 s k && decide (s.2.2.2.2.2 k 0 < s.2.1 ∧ s.2.2.2.2.2 k 1 < s.2.1 ∧ s.2.2.2.2.2 k 0 ≠ s.2.2.2.2.2 k 1)) := by unfold w2; rw [List.range_succ, List.all_append]; simp
theorem w1_false {s : PS} {k n : Nat} (hk : k < n) (h : ¬ s.2.2.2.2.1 k 0 ≤ s.2.2.2.2.1 k 1) : w1 s n = false := by
  unfold w1
  rw [List.all_eq_false]
  exact ⟨k, List.mem_range.mpr hk, by simpa using h⟩
theorem w2_false {s : PS} {k n : Nat} (hk : k < n) (h : ¬ (s.2.2.2.2.2 k 0 < s.2.1 ∧ s.2.2.2.2.2 k 1 < s.2.1 ∧ s.2.2.2.2.2 k 0 ≠ s.2.2.2.2.2 k 1)) : w2 s n = false := by
  unfold w2
  rw [List.all_eq_false]
  exact ⟨k, List.mem_range.mpr hk, by rw [decide_eq_true_iff]; exact h⟩
def PRG (s : PS) : Prop := (∀ j, j < 3 → 0 ≤ s.2.2.2.1 j ∧ s.2.2.2.1 j ≤ 9) ∧ (∀ i j, i < s.2.1 → j < 9 → loK 1 j ≤ s.2.2.2.2.1 i j ∧ s.2.2.2.2.1 i j ≤ hiK 1 j) ∧ (∀ i j, i < s.2.2.1 → j < 5 → loK 2 j ≤ s.2.2.2.2.2 i j ∧ s.2.2.2.2.2 i j ≤ hiK 2 j)
theorem itS_rng {t : List Nat} {κ : Nat} : ∀ (n a m : Nat) (row : Nat → Int) (q : Nat) (row' : Nat → Int), itS t κ n a m row = (q, true, row') → a ≤ t.length → (∀ j, j < kN κ → loK κ j ≤ row j ∧ row j ≤ hiK κ j) → ∀ j, j < kN κ → loK κ j ≤ row' j ∧ row' j ≤ hiK κ j
  | 0, a, m, row, q, row', h, ha, hr => by unfold itS at h; cases h
  | n + 1, a, m, row, q, row', h, ha, hr => by
    have hsk := sk_le ha
    cases e : spS κ (ch t (sk t a)) with
    | none => rw [itS_none e] at h; cases h; exact hr
    | some j =>
      rcases bit_01 m j with hb | hb
      · have hp1 : sk t a + 1 ≤ t.length := by
          rcases Nat.lt_or_ge (sk t a) t.length with q | q
          · exact q
          · exfalso
            have h2 := (spS_lt e).2
            rw [ch_out q] at h2
            unfold sc at h2
            have : ∀ (l : List Int) (j : Nat), (∀ x ∈ l, 0 ≤ x) → 0 ≤ l.getD j 0 := by
              intro l j hl
              rw [List.getD_eq_getElem?_getD]
              cases e : l[j]? with
              | none => exact Int.le_refl 0
              | some x => exact hl x (List.mem_of_getElem? e)
            have h3 := this ((strT κ).2.2.toList.map (fun c => (c.toNat : Int))) j (fun x hx => by
              obtain ⟨c, -, rfl⟩ := List.mem_map.mp hx
              exact Int.natCast_nonneg _)
            omega
        cases e2 : numS t (sk t a + 1) (loK κ j) (hiK κ j) with
        | mk q2 ov =>
          cases ov with
          | none => rw [itS_bad e hb e2] at h; cases h
          | some v =>
            rw [itS_go e hb e2] at h
            have hle := numS_le hp1 e2
            refine itS_rng n q2 _ _ q row' h hle.1 (fun i hi => ?_)
            by_cases hi2 : i = j
            · subst hi2; rw [if_pos rfl]; exact hle.2
            · rw [if_neg hi2]; exact hr i hi
      · rw [itS_dup e hb] at h; cases h
theorem un_rng : ∀ κ, κ < 3 → ∀ j, j < kN κ → loK κ j ≤ unK κ j ∧ unK κ j ≤ hiK κ j := by decide +kernel
theorem sk_lt_of {t : List Nat} {a : Nat} {c : Int} (h : ch t (sk t a) = c) (hc : c ≠ -1) : sk t a + 1 ≤ t.length := by
  rcases Nat.lt_or_ge (sk t a) t.length with q | q
  · exact q
  · exact absurd (h ▸ ch_out q) hc
theorem sky_lo : ∀ j, j < 3 → loK 0 j = 0 ∧ hiK 0 j = 9 := by decide +kernel
theorem clS_rng {t : List Nat} {a q : Nat} {s s' : PS} (h : clS t a s = (q, true, s')) (hp : PRG s) : PRG s' := by
  by_cases c1 : ch t (sk t a) = 115 ∧ s.1 < 1
  · cases e : itS t 0 (kN 0 + 1) (sk t a + 1) 0 (unK 0) with
    | mk q2 r =>
      obtain ⟨b, row⟩ := r
      rw [clS_s c1.1 c1.2 e] at h
      cases h
      have := itS_rng _ _ _ _ _ _ e (sk_lt_of c1.1 (by decide)) (un_rng 0 (by decide))
      refine ⟨fun j hj => ?_, hp.2.1, hp.2.2⟩
      have h1 := this j hj
      rw [(sky_lo j hj).1, (sky_lo j hj).2] at h1
      exact h1
  · by_cases c2 : ch t (sk t a) = 112 ∧ s.2.1 < 7
    · cases e : itS t 1 (kN 1 + 1) (sk t a + 1) 0 (unK 1) with
      | mk q2 r =>
        obtain ⟨b, row⟩ := r
        rw [clS_p c2.1 c2.2 e] at h
        cases h
        have := itS_rng _ _ _ _ _ _ e (sk_lt_of c2.1 (by decide)) (un_rng 1 (by decide))
        refine ⟨hp.1, fun i j hi hj => ?_, hp.2.2⟩
        dsimp only at hi ⊢
        by_cases e3 : i = s.2.1
        · rw [if_pos e3]; exact this j hj
        · rw [if_neg e3]; exact hp.2.1 i j (by omega) hj
    · by_cases c3 : ch t (sk t a) = 105 ∧ s.2.2.1 < 9
      · cases e : itS t 2 (kN 2 + 1) (sk t a + 1) 0 (unK 2) with
        | mk q2 r =>
          obtain ⟨b, row⟩ := r
          rw [clS_i c3.1 c3.2 e] at h
          cases h
          have := itS_rng _ _ _ _ _ _ e (sk_lt_of c3.1 (by decide)) (un_rng 2 (by decide))
          refine ⟨hp.1, hp.2.1, fun i j hi hj => ?_⟩
          dsimp only at hi ⊢
          by_cases e3 : i = s.2.2.1
          · rw [if_pos e3]; exact this j hj
          · rw [if_neg e3]; exact hp.2.2 i j (by omega) hj
      · rw [clS_0 c1 c2 c3] at h; cases h
theorem pnd_rng {s : PS} (h : PRG s) {i j : Nat} (hi : i < s.2.1) (hj : j < 9) : 0 ≤ s.2.2.2.2.1 i j ∧ s.2.2.2.2.1 i j ≤ 99 := by
  have h1 := h.2.1 i j hi hj
  have h2 := kV_ok 1 (by decide) j hj
  omega
theorem pip_rng {s : PS} (h : PRG s) {i j : Nat} (hi : i < s.2.2.1) (hj : j < 5) : 0 ≤ s.2.2.2.2.2 i j ∧ s.2.2.2.2.2 i j ≤ 99 := by
  have h1 := h.2.2 i j hi hj
  have h2 := kV_ok 2 (by decide) j hj
  omega
theorem i1_X9_stands {l : Launch} {D : va_G} {cA ad : Nat → Nat} {d : Nat} {σ : AS} {K : Option Value → AS → Prop} {s : PS} (hR : RO σ) (hs : PSC σ s) (hp : POK s) (hg : PRG s) (hK : K (some (.int (if whB s = true then iI 1 else iI 0))) σ) (hk2 : w1 s s.2.1 = true → Go l D cA ad (d + 1) mX9_stands 39 [.ref 23, .int (iI 0), .null, .null] [] σ K) : ∀ (n k : Nat), s.2.1 - k < n → k ≤ s.2.1 → w1 s k = true → Go l D cA ad (d + 1) mX9_stands 2 [.ref 23, .int (iI k), .null, .null] [] σ K := by
  have hpP := hp.2.1
  have hpQ := hp.2.2.1
  intro n
  induction n with
  | zero => intro k h; omega
  | succ n ih =>
  intro k hn hkn hw
  refine go_iload_n dX9_stands_2 rfl ?_
  refine go_aload_n dX9_stands_3 rfl ?_
  refine go_getI fX9_35 dX9_stands_4 rfl ?_
  refine go_icmp_ge (tgt := 37) dX9_stands_7 (by decide) (fun h7 => ?_) (fun h7 => ?_)
  · rw [hs.2.1, iI_le (by omega)] at h7
    refine go_iconst (v := iI 0) dX9_stands_37 (by decide) ?_
    refine go_istore_n dX9_stands_38 (Nat.le_of_ble_eq_true rfl) rfl ?_
    simp only [List.set]
    exact hk2 (by rw [show k = s.2.1 by omega] at hw; exact hw)
  · rw [hs.2.1, iI_le (by omega)] at h7
    have g0 := pnd_rng hg (i := k) (j := 0) (by omega) (by decide)
    have g1 := pnd_rng hg (i := k) (j := 1) (by omega) (by decide)
    refine go_aload_n dX9_stands_10 rfl ?_
    refine go_getR fX9_27 dX9_stands_11 rfl (hR _ _ _ rfl) ?_
    refine go_iload_n dX9_stands_14 rfl ?_
    refine go_aald dX9_stands_15 rfl (by decide) (by exact vp_iI (by omega)) (by rw [cl_n _ (by omega)]; exact hR _ _ _ (r25 k (by omega)).1) ?_
    refine go_iconst (v := iI 0) dX9_stands_16 (by decide) ?_
    refine go_iald dX9_stands_17 (r25 k (by omega)).2.1 (by exact vp_iI (by omega)) ?_
    refine go_aload_n dX9_stands_18 rfl ?_
    refine go_getR fX9_27 dX9_stands_19 rfl (hR _ _ _ rfl) ?_
    refine go_iload_n dX9_stands_22 rfl ?_
    refine go_aald dX9_stands_23 rfl (by decide) (by exact vp_iI (by omega)) (by rw [cl_n _ (by omega)]; exact hR _ _ _ (r25 k (by omega)).1) ?_
    refine go_iconst (v := iI 1) dX9_stands_24 (by decide) ?_
    refine go_iald dX9_stands_25 (r25 k (by omega)).2.1 (by exact vp_iI (by omega)) ?_
    refine go_icmp_le (tgt := 31) dX9_stands_26 (by decide) (fun h26 => ?_) (fun h26 => ?_)
    · rw [cl_0, show (iI 1).toNatClampNeg = 1 by decide, hs.2.2.2.2.1 k 0 (by omega) (by decide), hs.2.2.2.2.1 k 1 (by omega) (by decide), iI_le (by omega)] at h26
      refine go_iincI dX9_stands_31 rfl (Nat.le_of_ble_eq_true rfl) rfl ?_
      refine go_goto (tgt := 2) dX9_stands_34 (by decide) ?_
      simp only [List.set, iI_add]
      exact ih (k + 1) (by omega) (by omega) (by rw [w1_succ, hw]; simpa using h26)
    · rw [cl_0, show (iI 1).toNatClampNeg = 1 by decide, hs.2.2.2.2.1 k 0 (by omega) (by decide), hs.2.2.2.2.1 k 1 (by omega) (by decide), iI_le (by omega)] at h26
      refine go_iconst (v := iI 0) dX9_stands_29 (by decide) ?_
      refine go_iret rfl rfl dX9_stands_30 ?_
      have : whB s = false := by unfold whB; rw [w1_false (show k < s.2.1 by omega) h26]; simp
      rw [this] at hK
      exact hK
theorem i2_X9_stands {l : Launch} {D : va_G} {cA ad : Nat → Nat} {d : Nat} {σ : AS} {K : Option Value → AS → Prop} {s : PS} (hR : RO σ) (hs : PSC σ s) (hp : POK s) (hg : PRG s) (hK : K (some (.int (if whB s = true then iI 1 else iI 0))) σ) (hw1 : w1 s s.2.1 = true) : ∀ (n k : Nat) (v2 v3 : Value), s.2.2.1 - k < n → k ≤ s.2.2.1 → w2 s k = true → Go l D cA ad (d + 1) mX9_stands 39 [.ref 23, .int (iI k), v2, v3] [] σ K := by
  have hpP := hp.2.1
  have hpQ := hp.2.2.1
  intro n
  induction n with
  | zero => intro k v2 v3 h; omega
  | succ n ih =>
  intro k v2 v3 hn hkn hw
  refine go_iload_n dX9_stands_39 rfl ?_
  refine go_aload_n dX9_stands_40 rfl ?_
  refine go_getI fX9_39 dX9_stands_41 rfl ?_
  refine go_icmp_ge (tgt := 94) dX9_stands_44 (by decide) (fun h44 => ?_) (fun h44 => ?_)
  · rw [hs.2.2.1, iI_le (by omega)] at h44
    refine go_aload_n dX9_stands_94 rfl ?_
    refine go_callV (as := []) wX9_110 dX9_stands_95 rfl rfl rfl rfl (Nat.le_of_ble_eq_true rfl) (ct_X9_isTold rfl hs.2.1 (by omega) ?_)
    refine go_iret rfl (by split <;> decide) dX9_stands_98 ?_
    have e : whB s = decide (0 < s.2.1) := by unfold whB; rw [hw1, show s.2.2.1 = k by omega, hw]; simp
    rw [e] at hK
    by_cases q : 0 < s.2.1
    · rw [if_pos q]; rw [if_pos (by simpa using q)] at hK; exact hK
    · rw [if_neg q]; rw [if_neg (by simpa using q)] at hK; exact hK
  · rw [hs.2.2.1, iI_le (by omega)] at h44
    have g0 := pip_rng hg (i := k) (j := 0) (by omega) (by decide)
    have g1 := pip_rng hg (i := k) (j := 1) (by omega) (by decide)
    refine go_aload_n dX9_stands_47 rfl ?_
    refine go_getR fX9_32 dX9_stands_48 rfl (hR _ _ _ rfl) ?_
    refine go_iload_n dX9_stands_51 rfl ?_
    refine go_aald dX9_stands_52 rfl (by decide) (by exact vp_iI (by omega)) (by rw [cl_n _ (by omega)]; exact hR _ _ _ (r33 k (by omega)).1) ?_
    refine go_iconst (v := iI 0) dX9_stands_53 (by decide) ?_
    refine go_iald dX9_stands_54 (r33 k (by omega)).2.1 (by exact vp_iI (by omega)) ?_
    rw [cl_0, hs.2.2.2.2.2 k 0 (by omega) (by decide)]
    refine go_istore_n dX9_stands_55 (Nat.le_of_ble_eq_true rfl) rfl ?_
    refine go_aload_n dX9_stands_56 rfl ?_
    refine go_getR fX9_32 dX9_stands_57 rfl (hR _ _ _ rfl) ?_
    refine go_iload_n dX9_stands_60 rfl ?_
    refine go_aald dX9_stands_61 rfl (by decide) (by exact vp_iI (by omega)) (by rw [cl_n _ (by omega)]; exact hR _ _ _ (r33 k (by omega)).1) ?_
    refine go_iconst (v := iI 1) dX9_stands_62 (by decide) ?_
    refine go_iald dX9_stands_63 (r33 k (by omega)).2.1 (by exact vp_iI (by omega)) ?_
    rw [show (iI 1).toNatClampNeg = 1 by decide, hs.2.2.2.2.2 k 1 (by omega) (by decide)]
    refine go_istore_n dX9_stands_64 (Nat.le_of_ble_eq_true rfl) rfl ?_
    refine go_aload_n dX9_stands_65 rfl ?_
    refine go_iload_n dX9_stands_66 rfl ?_
    refine go_callV (as := [_]) wX9_107 dX9_stands_67 rfl rfl rfl rfl (Nat.le_of_ble_eq_true rfl) (ct_X9_hasPond (n := s.2.1) (by omega) rfl hs.2.1 (by omega) ?_)
    refine go_if_eq (tgt := 86) dX9_stands_70 (by decide) (fun h70 => ?_) (fun h70 => ?_)
    · have c70 : ¬ s.2.2.2.2.2 k 0 < s.2.1 := by
        intro q
        rw [if_pos ⟨g0.1, q⟩] at h70
        exact absurd h70 (by decide)
      refine go_iconst (v := iI 0) dX9_stands_86 (by decide) ?_
      refine go_iret rfl rfl dX9_stands_87 ?_
      have : whB s = false := by unfold whB; rw [w2_false (show k < s.2.2.1 by omega) (by omega)]; simp
      rw [this] at hK
      exact hK
    · have c70 : s.2.2.2.2.2 k 0 < s.2.1 := by
        by_cases q : s.2.2.2.2.2 k 0 < s.2.1
        · exact q
        · rw [if_neg (by omega)] at h70; exact absurd rfl h70
      refine go_aload_n dX9_stands_73 rfl ?_
      refine go_iload_n dX9_stands_74 rfl ?_
      refine go_callV (as := [_]) wX9_107 dX9_stands_75 rfl rfl rfl rfl (Nat.le_of_ble_eq_true rfl) (ct_X9_hasPond (n := s.2.1) (by omega) rfl hs.2.1 (by omega) ?_)
      refine go_if_eq (tgt := 86) dX9_stands_78 (by decide) (fun h78 => ?_) (fun h78 => ?_)
      · have c78 : ¬ s.2.2.2.2.2 k 1 < s.2.1 := by
          intro q
          rw [if_pos ⟨g1.1, q⟩] at h78
          exact absurd h78 (by decide)
        refine go_iconst (v := iI 0) dX9_stands_86 (by decide) ?_
        refine go_iret rfl rfl dX9_stands_87 ?_
        have : whB s = false := by unfold whB; rw [w2_false (show k < s.2.2.1 by omega) (by omega)]; simp
        rw [this] at hK
        exact hK
      · have c78 : s.2.2.2.2.2 k 1 < s.2.1 := by
          by_cases q : s.2.2.2.2.2 k 1 < s.2.1
          · exact q
          · rw [if_neg (by omega)] at h78; exact absurd rfl h78
        refine go_iload_n dX9_stands_81 rfl ?_
        refine go_iload_n dX9_stands_82 rfl ?_
        refine go_icmp_ne (tgt := 88) dX9_stands_83 (by decide) (fun h83 => ?_) (fun h83 => ?_)
        · rw [iI_eq (by omega)] at h83
          refine go_iincI dX9_stands_88 rfl (Nat.le_of_ble_eq_true rfl) rfl ?_
          refine go_goto (tgt := 39) dX9_stands_91 (by decide) ?_
          simp only [List.set, iI_add]
          exact ih (k + 1) _ _ (by omega) (by omega) (by rw [w2_succ, hw]; simp; omega)
        · rw [iI_eq (by omega)] at h83
          refine go_iconst (v := iI 0) dX9_stands_86 (by decide) ?_
          refine go_iret rfl rfl dX9_stands_87 ?_
          have : whB s = false := by unfold whB; rw [w2_false (show k < s.2.2.1 by omega) (by omega)]; simp
          rw [this] at hK
          exact hK
theorem ct_X9_stands {l : Launch} {D : va_G} {cA ad : Nat → Nat} {d : Nat} {σ : AS} {K : Option Value → AS → Prop} {s : PS} (hR : RO σ) (hs : PSC σ s) (hp : POK s) (hg : PRG s) (hK : K (some (.int (if whB s = true then iI 1 else iI 0))) σ) : Call l D cA ad (d + 1) mX9_stands [.ref 23] σ K := by
  refine call_go (by decide) (Nat.le_of_ble_eq_true rfl) (show Go l D cA ad (d + 1) mX9_stands 0 [.ref 23, .null, .null, .null] [] σ K from ?_)
  refine go_iconst (v := iI 0) dX9_stands_0 (by decide) ?_
  refine go_istore_n dX9_stands_1 (Nat.le_of_ble_eq_true rfl) rfl ?_
  simp only [List.set]
  exact i1_X9_stands hR hs hp hg hK (fun hw1 => i2_X9_stands hR hs hp hg hK hw1 (s.2.2.1 + 1) 0 _ _ (by omega) (by omega) rfl) (s.2.1 + 1) 0 (by omega) (by omega) rfl

theorem i1_X12_isWhole {l : Launch} {D : va_G} {cA ad : Nat → Nat} {d : Nat} {σ : AS} {K : Option Value → AS → Prop} {s : PS} (hR : RO σ) (hs : PSM σ s) (hp : POK s) (hg : PRG s) (hk2 : Go l D cA ad d mX12_isWhole 64 [.ref 111, .int (if (decide (0 < s.2.1) && w1 s s.2.1) = true then iI 1 else iI 0), .int (iI 0)] [] σ K) : ∀ (n k : Nat), s.2.1 - k < n → k ≤ s.2.1 → Go l D cA ad d mX12_isWhole 15 [.ref 111, .int (if (decide (0 < s.2.1) && w1 s k) = true then iI 1 else iI 0), .int (iI k)] [] σ K := by
  have hpP := hp.2.1
  have hpQ := hp.2.2.1
  intro n
  induction n with
  | zero => intro k h; omega
  | succ n ih =>
  intro k hn hkn
  refine go_iload_n dX12_isWhole_15 rfl ?_
  refine go_aload_n dX12_isWhole_16 rfl ?_
  refine go_getI fX12_245 dX12_isWhole_17 rfl ?_
  refine go_icmp_ge (tgt := 62) dX12_isWhole_20 (by decide) (fun h20 => ?_) (fun h20 => ?_)
  · rw [hs.2.1, iI_le (by omega)] at h20
    refine go_iconst (v := iI 0) dX12_isWhole_62 (by decide) ?_
    refine go_istore_n dX12_isWhole_63 (Nat.le_of_ble_eq_true rfl) rfl ?_
    simp only [List.set]
    rw [show k = s.2.1 by omega]
    exact hk2
  · rw [hs.2.1, iI_le (by omega)] at h20
    have x0 : σ.1 119 (iI 9 * iI k).toNatClampNeg = iI (s.2.2.2.2.1 k 0) := by rw [iI_mul, iI_cl (by omega), show ((9 : Int) * (k : Int)).toNat = 9 * k + 0 by omega]; exact hs.2.2.2.2.1 k 0 (by omega) (by decide)
    have x1 : σ.1 119 (iI 9 * iI k + iI 1).toNatClampNeg = iI (s.2.2.2.2.1 k 1) := by rw [iI_mul, iI_add, iI_cl (by omega), show ((9 : Int) * (k : Int) + 1).toNat = 9 * k + 1 by omega]; exact hs.2.2.2.2.1 k 1 (by omega) (by decide)
    have g0 := pnd_rng hg (i := k) (j := 0) (by omega) (by decide)
    have g1 := pnd_rng hg (i := k) (j := 1) (by omega) (by decide)
    refine go_iload_n dX12_isWhole_23 rfl ?_
    refine go_if_eq (tgt := 54) dX12_isWhole_24 (by decide) (fun h24 => ?_) (fun h24 => ?_)
    · have c24 : (decide (0 < s.2.1) && w1 s k) = false := by
        cases e : (decide (0 < s.2.1) && w1 s k) with
        | false => rfl
        | true => rw [e] at h24; exact absurd h24 (by decide)
      refine go_iconst (v := iI 0) dX12_isWhole_54 (by decide) ?_
      refine go_istore_n dX12_isWhole_55 (Nat.le_of_ble_eq_true rfl) rfl ?_
      refine go_iincI dX12_isWhole_56 rfl (Nat.le_of_ble_eq_true rfl) rfl ?_
      refine go_goto (tgt := 15) dX12_isWhole_59 (by decide) ?_
      simp only [List.set, iI_add]
      have e : (if (decide (0 < s.2.1) && w1 s (k + 1)) = true then iI 1 else iI 0) = iI 0 := by
        rw [w1_succ, ← Bool.and_assoc, c24]
        simp
        try omega
      have := ih (k + 1) (by omega) (by omega)
      rw [e] at this
      exact this
    · have c24 : (decide (0 < s.2.1) && w1 s k) = true := by
        cases e : (decide (0 < s.2.1) && w1 s k) with
        | true => rfl
        | false => rw [e] at h24; exact absurd rfl h24
      refine go_aload_n dX12_isWhole_27 rfl ?_
      refine go_getR fX12_46 dX12_isWhole_28 rfl (hR _ _ _ rfl) ?_
      refine go_bipush (v := iI 9) dX12_isWhole_31 (by decide) ?_
      refine go_iload_n dX12_isWhole_33 rfl ?_
      refine go_imul dX12_isWhole_34 ?_
      refine go_iald dX12_isWhole_35 rfl (by rw [iI_mul]; exact vp_iI (by omega)) ?_
      refine go_aload_n dX12_isWhole_36 rfl ?_
      refine go_getR fX12_46 dX12_isWhole_37 rfl (hR _ _ _ rfl) ?_
      refine go_bipush (v := iI 9) dX12_isWhole_40 (by decide) ?_
      refine go_iload_n dX12_isWhole_42 rfl ?_
      refine go_imul dX12_isWhole_43 ?_
      refine go_iconst (v := iI 1) dX12_isWhole_44 (by decide) ?_
      refine go_iadd dX12_isWhole_45 ?_
      refine go_iald dX12_isWhole_46 rfl (by rw [iI_mul, iI_add]; exact vp_iI (by omega)) ?_
      refine go_icmp_gt (tgt := 54) dX12_isWhole_47 (by decide) (fun h47 => ?_) (fun h47 => ?_)
      · rw [x0, x1, iI_lt (by omega)] at h47
        refine go_iconst (v := iI 0) dX12_isWhole_54 (by decide) ?_
        refine go_istore_n dX12_isWhole_55 (Nat.le_of_ble_eq_true rfl) rfl ?_
        refine go_iincI dX12_isWhole_56 rfl (Nat.le_of_ble_eq_true rfl) rfl ?_
        refine go_goto (tgt := 15) dX12_isWhole_59 (by decide) ?_
        simp only [List.set, iI_add]
        have e : (if (decide (0 < s.2.1) && w1 s (k + 1)) = true then iI 1 else iI 0) = iI 0 := by
          rw [w1_succ, ← Bool.and_assoc, c24]
          simp
          try omega
        have := ih (k + 1) (by omega) (by omega)
        rw [e] at this
        exact this
      · rw [x0, x1, iI_lt (by omega)] at h47
        refine go_iconst (v := iI 1) dX12_isWhole_50 (by decide) ?_
        refine go_goto (tgt := 55) dX12_isWhole_51 (by decide) ?_
        refine go_istore_n dX12_isWhole_55 (Nat.le_of_ble_eq_true rfl) rfl ?_
        refine go_iincI dX12_isWhole_56 rfl (Nat.le_of_ble_eq_true rfl) rfl ?_
        refine go_goto (tgt := 15) dX12_isWhole_59 (by decide) ?_
        simp only [List.set, iI_add]
        have e : (if (decide (0 < s.2.1) && w1 s (k + 1)) = true then iI 1 else iI 0) = iI 1 := by
          rw [w1_succ, ← Bool.and_assoc, c24]
          simp
          try omega
        have := ih (k + 1) (by omega) (by omega)
        rw [e] at this
        exact this
theorem i2_X12_isWhole {l : Launch} {D : va_G} {cA ad : Nat → Nat} {d : Nat} {σ : AS} {K : Option Value → AS → Prop} {s : PS} (hR : RO σ) (hs : PSM σ s) (hp : POK s) (hg : PRG s) (hK : K (some (.int (if (decide (0 < s.2.1) && w1 s s.2.1 && w2 s s.2.2.1) = true then iI 1 else iI 0))) σ) : ∀ (n k : Nat), s.2.2.1 - k < n → k ≤ s.2.2.1 → Go l D cA ad d mX12_isWhole 64 [.ref 111, .int (if (decide (0 < s.2.1) && w1 s s.2.1 && w2 s k) = true then iI 1 else iI 0), .int (iI k)] [] σ K := by
  have hpP := hp.2.1
  have hpQ := hp.2.2.1
  intro n
  induction n with
  | zero => intro k h; omega
  | succ n ih =>
  intro k hn hkn
  refine go_iload_n dX12_isWhole_64 rfl ?_
  refine go_aload_n dX12_isWhole_65 rfl ?_
  refine go_getI fX12_248 dX12_isWhole_66 rfl ?_
  refine go_icmp_ge (tgt := 141) dX12_isWhole_69 (by decide) (fun h69 => ?_) (fun h69 => ?_)
  · rw [hs.2.2.1, iI_le (by omega)] at h69
    refine go_iload_n dX12_isWhole_141 rfl ?_
    refine go_iret rfl (by split <;> decide) dX12_isWhole_142 ?_
    rw [show s.2.2.1 = k by omega] at hK
    exact hK
  · rw [hs.2.2.1, iI_le (by omega)] at h69
    have x0 : σ.1 121 (iI 5 * iI k).toNatClampNeg = iI (s.2.2.2.2.2 k 0) := by rw [iI_mul, iI_cl (by omega), show ((5 : Int) * (k : Int)).toNat = 5 * k + 0 by omega]; exact hs.2.2.2.2.2 k 0 (by omega) (by decide)
    have x1 : σ.1 121 (iI 5 * iI k + iI 1).toNatClampNeg = iI (s.2.2.2.2.2 k 1) := by rw [iI_mul, iI_add, iI_cl (by omega), show ((5 : Int) * (k : Int) + 1).toNat = 5 * k + 1 by omega]; exact hs.2.2.2.2.2 k 1 (by omega) (by decide)
    have g0 := pip_rng hg (i := k) (j := 0) (by omega) (by decide)
    have g1 := pip_rng hg (i := k) (j := 1) (by omega) (by decide)
    refine go_iload_n dX12_isWhole_72 rfl ?_
    refine go_if_eq (tgt := 133) dX12_isWhole_73 (by decide) (fun h73 => ?_) (fun h73 => ?_)
    · have c24 : (decide (0 < s.2.1) && w1 s s.2.1 && w2 s k) = false := by
        cases e : (decide (0 < s.2.1) && w1 s s.2.1 && w2 s k) with
        | false => rfl
        | true => rw [e] at h73; exact absurd h73 (by decide)
      refine go_iconst (v := iI 0) dX12_isWhole_133 (by decide) ?_
      refine go_istore_n dX12_isWhole_134 (Nat.le_of_ble_eq_true rfl) rfl ?_
      refine go_iincI dX12_isWhole_135 rfl (Nat.le_of_ble_eq_true rfl) rfl ?_
      refine go_goto (tgt := 64) dX12_isWhole_138 (by decide) ?_
      simp only [List.set, iI_add]
      have e : (if (decide (0 < s.2.1) && w1 s s.2.1 && w2 s (k + 1)) = true then iI 1 else iI 0) = iI 0 := by
        rw [w2_succ, ← Bool.and_assoc, c24]
        simp
        try omega
      have := ih (k + 1) (by omega) (by omega)
      rw [e] at this
      exact this
    · have c24 : (decide (0 < s.2.1) && w1 s s.2.1 && w2 s k) = true := by
        cases e : (decide (0 < s.2.1) && w1 s s.2.1 && w2 s k) with
        | true => rfl
        | false => rw [e] at h73; exact absurd rfl h73
      refine go_aload_n dX12_isWhole_76 rfl ?_
      refine go_getR fX12_52 dX12_isWhole_77 rfl (hR _ _ _ rfl) ?_
      refine go_iconst (v := iI 5) dX12_isWhole_80 (by decide) ?_
      refine go_iload_n dX12_isWhole_81 rfl ?_
      refine go_imul dX12_isWhole_82 ?_
      refine go_iald dX12_isWhole_83 rfl (by rw [iI_mul]; exact vp_iI (by omega)) ?_
      refine go_aload_n dX12_isWhole_84 rfl ?_
      refine go_getI fX12_245 dX12_isWhole_85 rfl ?_
      refine go_icmp_ge (tgt := 133) dX12_isWhole_88 (by decide) (fun h88 => ?_) (fun h88 => ?_)
      · rw [x0, hs.2.1, iI_le (by omega)] at h88
        refine go_iconst (v := iI 0) dX12_isWhole_133 (by decide) ?_
        refine go_istore_n dX12_isWhole_134 (Nat.le_of_ble_eq_true rfl) rfl ?_
        refine go_iincI dX12_isWhole_135 rfl (Nat.le_of_ble_eq_true rfl) rfl ?_
        refine go_goto (tgt := 64) dX12_isWhole_138 (by decide) ?_
        simp only [List.set, iI_add]
        have e : (if (decide (0 < s.2.1) && w1 s s.2.1 && w2 s (k + 1)) = true then iI 1 else iI 0) = iI 0 := by
          rw [w2_succ, ← Bool.and_assoc, c24]
          simp
          try omega
        have := ih (k + 1) (by omega) (by omega)
        rw [e] at this
        exact this
      · rw [x0, hs.2.1, iI_le (by omega)] at h88
        refine go_aload_n dX12_isWhole_91 rfl ?_
        refine go_getR fX12_52 dX12_isWhole_92 rfl (hR _ _ _ rfl) ?_
        refine go_iconst (v := iI 5) dX12_isWhole_95 (by decide) ?_
        refine go_iload_n dX12_isWhole_96 rfl ?_
        refine go_imul dX12_isWhole_97 ?_
        refine go_iconst (v := iI 1) dX12_isWhole_98 (by decide) ?_
        refine go_iadd dX12_isWhole_99 ?_
        refine go_iald dX12_isWhole_100 rfl (by rw [iI_mul, iI_add]; exact vp_iI (by omega)) ?_
        refine go_aload_n dX12_isWhole_101 rfl ?_
        refine go_getI fX12_245 dX12_isWhole_102 rfl ?_
        refine go_icmp_ge (tgt := 133) dX12_isWhole_105 (by decide) (fun h105 => ?_) (fun h105 => ?_)
        · rw [x1, hs.2.1, iI_le (by omega)] at h105
          refine go_iconst (v := iI 0) dX12_isWhole_133 (by decide) ?_
          refine go_istore_n dX12_isWhole_134 (Nat.le_of_ble_eq_true rfl) rfl ?_
          refine go_iincI dX12_isWhole_135 rfl (Nat.le_of_ble_eq_true rfl) rfl ?_
          refine go_goto (tgt := 64) dX12_isWhole_138 (by decide) ?_
          simp only [List.set, iI_add]
          have e : (if (decide (0 < s.2.1) && w1 s s.2.1 && w2 s (k + 1)) = true then iI 1 else iI 0) = iI 0 := by
            rw [w2_succ, ← Bool.and_assoc, c24]
            simp
            try omega
          have := ih (k + 1) (by omega) (by omega)
          rw [e] at this
          exact this
        · rw [x1, hs.2.1, iI_le (by omega)] at h105
          refine go_aload_n dX12_isWhole_108 rfl ?_
          refine go_getR fX12_52 dX12_isWhole_109 rfl (hR _ _ _ rfl) ?_
          refine go_iconst (v := iI 5) dX12_isWhole_112 (by decide) ?_
          refine go_iload_n dX12_isWhole_113 rfl ?_
          refine go_imul dX12_isWhole_114 ?_
          refine go_iald dX12_isWhole_115 rfl (by rw [iI_mul]; exact vp_iI (by omega)) ?_
          refine go_aload_n dX12_isWhole_116 rfl ?_
          refine go_getR fX12_52 dX12_isWhole_117 rfl (hR _ _ _ rfl) ?_
          refine go_iconst (v := iI 5) dX12_isWhole_120 (by decide) ?_
          refine go_iload_n dX12_isWhole_121 rfl ?_
          refine go_imul dX12_isWhole_122 ?_
          refine go_iconst (v := iI 1) dX12_isWhole_123 (by decide) ?_
          refine go_iadd dX12_isWhole_124 ?_
          refine go_iald dX12_isWhole_125 rfl (by rw [iI_mul, iI_add]; exact vp_iI (by omega)) ?_
          refine go_icmp_eq (tgt := 133) dX12_isWhole_126 (by decide) (fun h126 => ?_) (fun h126 => ?_)
          · rw [x0, x1, iI_eq (by omega)] at h126
            refine go_iconst (v := iI 0) dX12_isWhole_133 (by decide) ?_
            refine go_istore_n dX12_isWhole_134 (Nat.le_of_ble_eq_true rfl) rfl ?_
            refine go_iincI dX12_isWhole_135 rfl (Nat.le_of_ble_eq_true rfl) rfl ?_
            refine go_goto (tgt := 64) dX12_isWhole_138 (by decide) ?_
            simp only [List.set, iI_add]
            have e : (if (decide (0 < s.2.1) && w1 s s.2.1 && w2 s (k + 1)) = true then iI 1 else iI 0) = iI 0 := by
              rw [w2_succ, ← Bool.and_assoc, c24]
              simp
              try omega
            have := ih (k + 1) (by omega) (by omega)
            rw [e] at this
            exact this
          · rw [x0, x1, iI_eq (by omega)] at h126
            refine go_iconst (v := iI 1) dX12_isWhole_129 (by decide) ?_
            refine go_goto (tgt := 134) dX12_isWhole_130 (by decide) ?_
            refine go_istore_n dX12_isWhole_134 (Nat.le_of_ble_eq_true rfl) rfl ?_
            refine go_iincI dX12_isWhole_135 rfl (Nat.le_of_ble_eq_true rfl) rfl ?_
            refine go_goto (tgt := 64) dX12_isWhole_138 (by decide) ?_
            simp only [List.set, iI_add]
            have e : (if (decide (0 < s.2.1) && w1 s s.2.1 && w2 s (k + 1)) = true then iI 1 else iI 0) = iI 1 := by
              rw [w2_succ, ← Bool.and_assoc, c24]
              simp
              try omega
            have := ih (k + 1) (by omega) (by omega)
            rw [e] at this
            exact this
theorem ct_X12_isWhole {l : Launch} {D : va_G} {cA ad : Nat → Nat} {d : Nat} {σ : AS} {K : Option Value → AS → Prop} {s : PS} (hR : RO σ) (hs : PSM σ s) (hp : POK s) (hg : PRG s) (hK : K (some (.int (if whB s = true then iI 1 else iI 0))) σ) : Call l D cA ad d mX12_isWhole [.ref 111] σ K := by
  have hpP := hp.2.1
  have hpQ := hp.2.2.1
  refine call_go (by decide) (Nat.le_of_ble_eq_true rfl) (show Go l D cA ad d mX12_isWhole 0 [.ref 111, .null, .null] [] σ K from ?_)
  refine go_aload_n dX12_isWhole_0 rfl ?_
  refine go_getI fX12_245 dX12_isWhole_1 rfl ?_
  refine go_if_le (tgt := 11) dX12_isWhole_4 (by decide) (fun h4 => ?_) (fun h4 => ?_)
  · rw [hs.2.1, iI_le0 (by omega)] at h4
    refine go_iconst (v := iI 0) dX12_isWhole_11 (by decide) ?_
    refine go_istore_n dX12_isWhole_12 (Nat.le_of_ble_eq_true rfl) rfl ?_
    refine go_iconst (v := iI 0) dX12_isWhole_13 (by decide) ?_
    refine go_istore_n dX12_isWhole_14 (Nat.le_of_ble_eq_true rfl) rfl ?_
    simp only [List.set]
    have e : (if (decide (0 < s.2.1) && w1 s 0) = true then iI 1 else iI 0) = iI 0 := by
      rw [show w1 s 0 = true from rfl]
      simp
      omega
    have := i1_X12_isWhole (l := l) (D := D) (cA := cA) (ad := ad) (d := d) hR hs hp hg (by have h2 := i2_X12_isWhole (l := l) (D := D) (cA := cA) (ad := ad) (d := d) hR hs hp hg hK (s.2.2.1 + 1) 0 (by omega) (by omega); rw [show w2 s 0 = true from rfl, Bool.and_true] at h2; exact h2) (s.2.1 + 1) 0 (by omega) (by omega)
    rw [e] at this
    exact this
  · rw [hs.2.1, iI_le0 (by omega)] at h4
    refine go_iconst (v := iI 1) dX12_isWhole_7 (by decide) ?_
    refine go_goto (tgt := 12) dX12_isWhole_8 (by decide) ?_
    refine go_istore_n dX12_isWhole_12 (Nat.le_of_ble_eq_true rfl) rfl ?_
    refine go_iconst (v := iI 0) dX12_isWhole_13 (by decide) ?_
    refine go_istore_n dX12_isWhole_14 (Nat.le_of_ble_eq_true rfl) rfl ?_
    simp only [List.set]
    have e : (if (decide (0 < s.2.1) && w1 s 0) = true then iI 1 else iI 0) = iI 1 := by
      rw [show w1 s 0 = true from rfl]
      simp
      omega
    have := i1_X12_isWhole (l := l) (D := D) (cA := cA) (ad := ad) (d := d) hR hs hp hg (by have h2 := i2_X12_isWhole (l := l) (D := D) (cA := cA) (ad := ad) (d := d) hR hs hp hg hK (s.2.2.1 + 1) 0 (by omega) (by omega); rw [show w2 s 0 = true from rfl, Bool.and_true] at h2; exact h2) (s.2.1 + 1) 0 (by omega) (by omega)
    rw [e] at this
    exact this

