/-! a town's text -/
def twS (t : List Nat) : Nat → Nat → PS → Nat × Option PS
  | 0, a, _ => (a, none)
  | n + 1, a, s => match clS t a s with
    | (q, false, _) => (q, none)
    | (q, true, s') => if ch t q = -1 then (q, if whB s' = true then some s' else none) else if ch t q = 59 then twS t n (q + 1) s' else (q, none)
def ps0 : PS := (0, 0, 0, unK 0, fun _ _ => 0, fun _ _ => 0)
theorem twS_f {t : List Nat} {n a q : Nat} {s s' : PS} (h : clS t a s = (q, false, s')) : twS t (n + 1) a s = (q, none) := by unfold twS; rw [h]
theorem twS_x {t : List Nat} {n a q : Nat} {s s' : PS} (h : clS t a s = (q, true, s')) (h1 : ch t q ≠ -1) (h2 : ch t q ≠ 59) : twS t (n + 1) a s = (q, none) := by
  unfold twS; rw [h]; dsimp only; rw [if_neg h1, if_neg h2]
theorem twS_e {t : List Nat} {n a q : Nat} {s s' : PS} (h : clS t a s = (q, true, s')) (h1 : ch t q = -1) : twS t (n + 1) a s = (q, if whB s' = true then some s' else none) := by
  unfold twS; rw [h]; dsimp only; rw [if_pos h1]
theorem twS_n {t : List Nat} {n a q : Nat} {s s' : PS} (h : clS t a s = (q, true, s')) (h2 : ch t q = 59) : twS t (n + 1) a s = twS t n (q + 1) s' := by
  show (match clS t a s with | (q, false, _) => _ | (q, true, s') => _) = _
  rw [h]; dsimp only; rw [if_neg (by omega), if_pos h2]
theorem sk_of_ch {t : List Nat} {q : Nat} (h : ch t q ≠ 32) : sk t q = q := by
  apply sk_no
  intro e
  exact h (by rw [ch_in e]; rfl)
theorem PSC_atc {τ : AS} {a : Nat} {s : PS} (h : PSC τ s) : PSC (atc τ a) s := by
  obtain ⟨h1, h2, h3, h4, h5, h6⟩ := h
  refine ⟨by rw [atc_ne _ _ _ (by decide)]; exact h1, by rw [atc_ne _ _ _ (by decide)]; exact h2, by rw [atc_ne _ _ _ (by decide)]; exact h3, fun j hj => by rw [atc_ne _ _ _ (by decide)]; exact h4 j hj, fun i j hi hj => by rw [atc_ne _ _ _ (by omega)]; exact h5 i j hi hj, fun i j hi hj => by rw [atc_ne _ _ _ (by omega)]; exact h6 i j hi hj⟩
theorem PSM_msa {τ : AS} {a : Nat} {f : Int} {s : PS} (h : PSM τ s) : PSM (msa τ a f) s := by
  obtain ⟨h1, h2, h3, h4, h5, h6⟩ := h
  refine ⟨by rw [msa_fd _ _ 31 _ (by decide) (by decide)]; exact h1, by rw [msa_fd _ _ 28 _ (by decide) (by decide)]; exact h2, by rw [msa_fd _ _ 29 _ (by decide) (by decide)]; exact h3, fun j hj => by rw [msa_ne _ _ _ _ (by decide)]; exact h4 j hj, fun i j hi hj => by rw [msa_ne _ _ _ _ (by decide)]; exact h5 i j hi hj, fun i j hi hj => by rw [msa_ne _ _ _ _ (by decide)]; exact h6 i j hi hj⟩
theorem clS_gt {t : List Nat} {a q : Nat} {s s' : PS} (h : clS t a s = (q, true, s')) : a < q := by
  have mono : ∀ (κ n : Nat) (a m : Nat) (row : Nat → Int), a ≤ (itS t κ n a m row).1 := by
    intro κ n
    induction n with
    | zero => intro a m row; exact Nat.le_refl _
    | succ n ih =>
      intro a m row
      have hk := sk_ge t a
      cases e : spS κ (ch t (sk t a)) with
      | none => rw [itS_none e]; exact hk
      | some j =>
        rcases bit_01 m j with hb | hb
        · have h0 := sk_ge t (sk t a + 1)
          have hnum : ∀ lo hi, sk t a + 1 ≤ (numS t (sk t a + 1) lo hi).1 := by
            intro lo hi
            unfold numS
            split
            · split
              · split
                · dsimp only; omega
                · split <;> dsimp only <;> omega
              · split <;> dsimp only <;> omega
            · exact h0
          have h1 := hnum (loK κ j) (hiK κ j)
          cases e2 : numS t (sk t a + 1) (loK κ j) (hiK κ j) with
          | mk q2 ov =>
            rw [e2] at h1
            dsimp only at h1
            cases ov with
            | none => rw [itS_bad e hb e2]; dsimp only; omega
            | some v => rw [itS_go e hb e2]; have := ih q2 (m ||| 2 ^ j) (fun i => if i = j then v else row i); omega
        · rw [itS_dup e hb]; exact hk
  have hk := sk_ge t a
  by_cases c1 : ch t (sk t a) = 115 ∧ s.1 < 1
  · have e : itS t 0 (kN 0 + 1) (sk t a + 1) 0 (unK 0) = ((itS t 0 (kN 0 + 1) (sk t a + 1) 0 (unK 0)).1, (itS t 0 (kN 0 + 1) (sk t a + 1) 0 (unK 0)).2.1, (itS t 0 (kN 0 + 1) (sk t a + 1) 0 (unK 0)).2.2) := rfl
    rw [clS_s c1.1 c1.2 e] at h
    have := mono 0 (kN 0 + 1) (sk t a + 1) 0 (unK 0)
    have h2 := congrArg Prod.fst h
    dsimp only at h2
    omega
  · by_cases c2 : ch t (sk t a) = 112 ∧ s.2.1 < 7
    · have e : itS t 1 (kN 1 + 1) (sk t a + 1) 0 (unK 1) = ((itS t 1 (kN 1 + 1) (sk t a + 1) 0 (unK 1)).1, (itS t 1 (kN 1 + 1) (sk t a + 1) 0 (unK 1)).2.1, (itS t 1 (kN 1 + 1) (sk t a + 1) 0 (unK 1)).2.2) := rfl
      rw [clS_p c2.1 c2.2 e] at h
      have := mono 1 (kN 1 + 1) (sk t a + 1) 0 (unK 1)
      have h2 := congrArg Prod.fst h
      dsimp only at h2
      omega
    · by_cases c3 : ch t (sk t a) = 105 ∧ s.2.2.1 < 9
      · have e : itS t 2 (kN 2 + 1) (sk t a + 1) 0 (unK 2) = ((itS t 2 (kN 2 + 1) (sk t a + 1) 0 (unK 2)).1, (itS t 2 (kN 2 + 1) (sk t a + 1) 0 (unK 2)).2.1, (itS t 2 (kN 2 + 1) (sk t a + 1) 0 (unK 2)).2.2) := rfl
        rw [clS_i c3.1 c3.2 e] at h
        have := mono 2 (kN 2 + 1) (sk t a + 1) 0 (unK 2)
        have h2 := congrArg Prod.fst h
        dsimp only at h2
        omega
      · rw [clS_0 c1 c2 c3] at h; cases h
theorem lt_of_ch {t : List Nat} {q : Nat} {c : Int} (h : ch t q = c) (hc : c ≠ -1) : q < t.length := by
  rcases Nat.lt_or_ge q t.length with g | g
  · exact g
  · exact absurd (h ▸ ch_out g) hc
theorem it_X9_readFrom {l : Launch} {D : va_G} {cA ad : Nat → Nat} {d : Nat} {σ : AS} {K : Option Value → AS → Prop} {t : List Nat} (ht : TOK t) (hK1 : ∀ q τ, Fr 23 42 σ τ → twS t 242 0 ps0 = (q, none) → K (some (.int (iI 0))) (atc τ q)) (hK2 : ∀ q s τ, Fr 23 42 σ τ → twS t 242 0 ps0 = (q, some s) → PSC τ s → POK s → PRG s → K (some (.int (iI 1))) (atc τ q)) : ∀ (n a k : Nat) (s : PS) (τ : AS), t.length - a < n → k ≤ a → a ≤ t.length → RO τ → TC τ t → Fr 23 42 σ τ → PSC τ s → POK s → PRG s → twS t 242 0 ps0 = twS t n a s → Go l D cA ad (d + 6) mX9_readFrom 32 [.ref 23, .ref 1, .int (iI k)] [] (atc τ a) K := by
  have ht1 := ht.1
  intro n
  induction n with
  | zero => intro a k s τ h; omega
  | succ n ih =>
  intro a k s τ hn hka ha hR hT hfr hs hp hg hres
  refine go_iload_n dX9_readFrom_32 rfl ?_
  refine go_sipush (v := iI 240) dX9_readFrom_33 (by decide) ?_
  refine go_icmp_gt (tgt := 79) dX9_readFrom_36 (by decide) (fun h36 => ?_) (fun h36 => ?_)
  · exfalso
    rw [iI_lt (by omega)] at h36
    omega
  · refine go_aload_n dX9_readFrom_39 rfl ?_
    refine go_aload_n dX9_readFrom_40 rfl ?_
    refine go_callV (as := [_]) wX9_57 dX9_readFrom_41 rfl rfl rfl rfl (Nat.le_of_ble_eq_true rfl) (ct_X9_readClause ht hR hT hs hp ha (fun q τ' fr hq => ?_) (fun q s' τ' fr hq hle hc hs' hp' => ?_))
    · refine go_if_ne (tgt := 49) dX9_readFrom_44 (by decide) (fun h44 => ?_) (fun h44 => ?_)
      · exact absurd h44 (by decide)
      · refine go_iconst (v := iI 0) dX9_readFrom_47 (by decide) ?_
        refine go_iret rfl rfl dX9_readFrom_48 ?_
        obtain ⟨b, s', e1, e2⟩ := hq
        refine hK1 _ _ (hfr.tr fr) (hres.trans ?_)
        cases b with
        | false => exact twS_f e1
        | true => exact twS_x e1 (e2 rfl).1 (e2 rfl).2
    · have hg' := clS_rng hq hg
      have hgt := clS_gt hq
      have hR' : RO τ' := fr.RO hR
      have hT' : TC τ' t := fr.TC hT (by decide)
      have hfr' := hfr.tr fr
      have hskq : sk t q = q := sk_of_ch (by omega)
      have hchq := ch_lt ht q
      refine go_if_ne (tgt := 49) dX9_readFrom_44 (by decide) (fun h44 => ?_) (fun h44 => ?_)
      · refine go_aload_n dX9_readFrom_49 rfl ?_
        refine go_callV (as := []) wX9_61 dX9_readFrom_50 rfl rfl rfl rfl (Nat.le_of_ble_eq_true rfl) (ct_X8_look ht hR' hT' hle ?_)
        rw [hskq]
        refine go_iconst (v := iI (-1)) dX9_readFrom_53 (by decide) ?_
        refine go_icmp_ne (tgt := 62) dX9_readFrom_54 (by decide) (fun h54 => ?_) (fun h54 => ?_)
        · rw [iI_eq (by omega)] at h54
          refine go_aload_n dX9_readFrom_62 rfl ?_
          refine go_bipush (v := iI 59) dX9_readFrom_63 (by decide) ?_
          refine go_callV (as := [_]) wX9_68 dX9_readFrom_65 rfl rfl rfl rfl (Nat.le_of_ble_eq_true rfl) (ct_X8_take (c := 59) ht hR' hT' hle (by decide) (fun hne => ?_) (fun heq => ?_))
          · exfalso
            rw [hskq] at hne
            omega
          · refine go_if_ne (tgt := 73) dX9_readFrom_68 (by decide) (fun h68 => ?_) (fun h68 => ?_)
            · refine go_iincI dX9_readFrom_73 rfl (Nat.le_of_ble_eq_true rfl) rfl ?_
              refine go_goto (tgt := 32) dX9_readFrom_76 (by decide) ?_
              simp only [List.set, iI_add]
              rw [hskq]
              rw [hskq] at heq
              exact ih (q + 1) (k + 1) s' τ' (by omega) (by omega) (lt_of_ch heq (by decide)) hR' hT' hfr' hs' hp' hg' (hres.trans (twS_n hq heq))
            · exact absurd h68 (by decide)
        · rw [iI_eq (by omega)] at h54
          refine go_aload_n dX9_readFrom_57 rfl ?_
          refine go_callV (as := []) wX9_64 dX9_readFrom_58 rfl rfl rfl rfl (Nat.le_of_ble_eq_true rfl) (ct_X9_stands hR' (PSC_atc hs') hp' hg' ?_)
          refine go_iret rfl (by split <;> decide) dX9_readFrom_61 ?_
          have hend := hres.trans (twS_e hq h54)
          by_cases hwb : whB s' = true
          · rw [if_pos hwb] at hend ⊢
            exact hK2 _ _ _ hfr' hend hs' hp' hg'
          · rw [if_neg hwb] at hend ⊢
            exact hK1 _ _ hfr' hend
      · exact absurd h44 (by decide)
theorem ct_X9_readFrom {l : Launch} {D : va_G} {cA ad : Nat → Nat} {d : Nat} {σ : AS} {K : Option Value → AS → Prop} {t : List Nat} (ht : TOK t) (hR : RO σ) (hT : TC σ t) (hK1 : ∀ q τ, Fr 23 42 σ τ → twS t 242 0 ps0 = (q, none) → K (some (.int (iI 0))) (atc τ q)) (hK2 : ∀ q s τ, Fr 23 42 σ τ → twS t 242 0 ps0 = (q, some s) → PSC τ s → POK s → PRG s → K (some (.int (iI 1))) (atc τ q)) : Call l D cA ad (d + 6) mX9_readFrom [.ref 23, .ref 1] σ K := by
  have ht1 := ht.1
  refine call_go (by decide) (Nat.le_of_ble_eq_true rfl) (show Go l D cA ad (d + 6) mX9_readFrom 0 [.ref 23, .ref 1, .null] [] σ K from ?_)
  refine go_aload_n dX9_readFrom_0 rfl ?_
  refine go_iconst (v := iI 0) dX9_readFrom_1 (by decide) ?_
  refine go_putI fX9_46 rfl dX9_readFrom_2 rfl rfl rfl ?_
  rw [show sI σ 1 (upd (σ.1 1) 2 (iI 0)) = atc σ 0 from rfl]
  refine go_aload_n dX9_readFrom_5 rfl ?_
  refine go_iconst (v := iI 0) dX9_readFrom_6 (by decide) ?_
  refine go_putI fX9_51 rfl dX9_readFrom_7 rfl rfl rfl ?_
  rw [atc_fd (by decide)]
  refine go_aload_n dX9_readFrom_10 rfl ?_
  refine go_iconst (v := iI 0) dX9_readFrom_11 (by decide) ?_
  refine go_putI fX9_35 rfl dX9_readFrom_12 rfl rfl rfl ?_
  rw [atc_fd (by decide)]
  refine go_aload_n dX9_readFrom_15 rfl ?_
  refine go_iconst (v := iI 0) dX9_readFrom_16 (by decide) ?_
  refine go_putI fX9_39 rfl dX9_readFrom_17 rfl rfl rfl ?_
  rw [atc_fd (by decide)]
  refine go_gets (j := 0) (by decide) rfl dX9_readFrom_20 ?_
  refine go_aload_n dX9_readFrom_23 rfl ?_
  refine go_getR fX9_17 dX9_readFrom_24 rfl (hR _ _ _ rfl) ?_
  refine go_callS (as := [_, _]) wX9_42 dX9_readFrom_27 rfl rfl (Nat.le_of_ble_eq_true rfl) (ct_X9_copyRow_t (j := 0) (n := 3) (by decide) rfl rfl (by omega) (fun r0 hr0 => ?_))
  rw [atc_sI (by decide)]
  refine go_iconst (v := iI 0) dX9_readFrom_30 (by decide) ?_
  refine go_istore_n dX9_readFrom_31 (Nat.le_of_ble_eq_true rfl) rfl ?_
  simp only [List.set]
  refine it_X9_readFrom ht hK1 hK2 242 0 0 ps0 _ (by omega) (by omega) (by omega) hR (TC_sI (TC_sI (TC_sI (TC_sI hT (by decide) (by decide)) (by decide) (by decide)) (by decide) (by decide)) (by decide) (by decide)) ((((Fr.rf.sI (by decide) (by decide)).sI (by decide) (by decide)).sI (by decide) (by decide)).sI (by decide) (by decide)) ⟨?_, ?_, ?_, fun j hj => ?_, fun i j hi => absurd hi (Nat.not_lt_zero i), fun i j hi => absurd hi (Nat.not_lt_zero i)⟩ ⟨by decide, by decide, by decide, fun _ => rfl⟩ ⟨fun j hj => ?_, fun i j hi => absurd hi (Nat.not_lt_zero i), fun i j hi => absurd hi (Nat.not_lt_zero i)⟩ rfl
  · rw [sI_ne _ _ _ _ (by decide), sI_same, upd_ne _ _ _ _ (by decide), sI_same, upd_ne _ _ _ _ (by decide), sI_same, upd_same]; rfl
  · rw [sI_ne _ _ _ _ (by decide), sI_same, upd_ne _ _ _ _ (by decide), sI_same, upd_same]; rfl
  · rw [sI_ne _ _ _ _ (by decide), sI_same, upd_same]; rfl
  · rw [sI_same, hr0 j hj]; exact kv_un (κ := 0) (by decide) hj
  · have h1 := un_rng 0 (by decide) j hj
    rw [(sky_lo j hj).1, (sky_lo j hj).2] at h1
    exact h1

/-- the model's reader set upon a text -/
def stT (σ : AS) (tx b n : Nat) : AS := sI (sR σ 111 (va_up (σ.2.2 111) 5 (some tx))) 111 (upd (upd (σ.1 111) 8 (iI b)) 9 (iI n))
theorem RO_stT {σ : AS} {tx b n : Nat} (h : RO σ) : RO (stT σ tx b n) := by
  intro k j a e
  have h0 := h k j a e
  show (if k = 111 then va_up (σ.2.2 111) 5 (some tx) else σ.2.2 k) j = some a
  by_cases hk : k = 111
  · subst hk
    rw [if_pos rfl]
    by_cases hj : j = 5
    · subst hj; rw [show R0 111 5 = none by decide] at e; cases e
    · show (if j = 5 then some tx else σ.2.2 111 j) = some a
      rw [if_neg hj]; exact h0
  · rw [if_neg hk]; exact h0
theorem stT_I {σ : AS} {tx b n k : Nat} (h : k ≠ 111) : (stT σ tx b n).1 k = σ.1 k := by unfold stT; rw [sI_ne _ _ _ _ h]; rfl
theorem stT_F {σ : AS} {tx b n j : Nat} (h8 : j ≠ 8) (h9 : j ≠ 9) : (stT σ tx b n).1 111 j = σ.1 111 j := by unfold stT; rw [sI_same, upd_ne _ _ _ _ h9, upd_ne _ _ _ _ h8]
theorem stT_TX {σ : AS} {t : List Nat} (hT : TM σ t) (hl : t.length ≤ 240) : TX (stT σ 112 0 t.length) 112 0 t := by
  refine ⟨rfl, Or.inl ⟨rfl, by omega⟩, ?_, ?_, fun i c hc => ?_⟩
  · unfold stT; rw [sI_same, upd_ne _ _ _ _ (by decide), upd_same]
  · unfold stT; rw [sI_same, upd_same]
  · rw [stT_I (by decide), Nat.zero_add]; exact hT.2 i c hc
theorem ct_X12_starts {l : Launch} {D : va_G} {cA ad : Nat → Nat} {d : Nat} {σ : AS} {K : Option Value → AS → Prop} {tx b n : Nat} (hK : K none (msa (stT σ tx b n) 0 (-1))) : Call l D cA ad d mX12_starts [.ref 111, .ref tx, .int (iI b), .int (iI n)] σ K := by
  refine call_go (by decide) (Nat.le_of_ble_eq_true rfl) (show Go l D cA ad d mX12_starts 0 [.ref 111, .ref tx, .int (iI b), .int (iI n)] [] σ K from ?_)
  refine go_aload_n dX12_starts_0 rfl ?_
  refine go_aload_n dX12_starts_1 rfl ?_
  refine go_putR fX12_23 rfl dX12_starts_2 rfl (fun _ => rfl) (fun _ => rfl) ?_
  refine go_aload_n dX12_starts_5 rfl ?_
  refine go_iload_n dX12_starts_6 rfl ?_
  refine go_putI fX12_125 rfl dX12_starts_7 rfl rfl rfl ?_
  refine go_aload_n dX12_starts_10 rfl ?_
  refine go_iload_n dX12_starts_11 rfl ?_
  refine go_putI fX12_122 rfl dX12_starts_12 rfl rfl rfl ?_
  refine go_aload_n dX12_starts_15 rfl ?_
  refine go_iconst (v := iI 0) dX12_starts_16 (by decide) ?_
  refine go_putI fX12_119 rfl dX12_starts_17 rfl rfl rfl ?_
  refine go_aload_n dX12_starts_20 rfl ?_
  refine go_iconst (v := iI (-1)) dX12_starts_21 (by decide) ?_
  refine go_putI fX12_128 rfl dX12_starts_22 rfl rfl rfl ?_
  refine go_vret rfl dX12_starts_25 ?_
  have e : ∀ f : Nat → Int32, upd (upd (upd (upd f 8 (iI b)) 9 (iI n)) 10 (iI 0)) 11 (iI (-1)) = upd (upd (upd (upd f 8 (iI b)) 9 (iI n)) 10 (iI ((0 : Nat) : Int))) 11 (iI (-1)) := fun _ => rfl
  simp only [sI_same, sI_sI]
  unfold msa stT at hK
  simp only [sI_same, sI_sI] at hK
  exact hK

theorem clS_le {t : List Nat} {a : Nat} {s : PS} (ha : a ≤ t.length) : (clS t a s).1 ≤ t.length := by
  have mono : ∀ (κ n : Nat) (a m : Nat) (row : Nat → Int), κ < 3 → a ≤ t.length → (itS t κ n a m row).1 ≤ t.length := by
    intro κ n
    induction n with
    | zero => intro a m row _ h; exact h
    | succ n ih =>
      intro a m row hκ ha
      have hk := sk_le ha
      cases e : spS κ (ch t (sk t a)) with
      | none => rw [itS_none e]; exact hk
      | some j =>
        have h2 := spS_lt e
        have h3 := kV_ok κ hκ j h2.1
        have hp1 := sk_lt_of (t := t) (a := a) h2.2.symm (by omega)
        rcases bit_01 m j with hb | hb
        · have h1 := numS_pos (lo := loK κ j) (hi := hiK κ j) hp1
          cases e2 : numS t (sk t a + 1) (loK κ j) (hiK κ j) with
          | mk q2 ov =>
            rw [e2] at h1
            cases ov with
            | none => rw [itS_bad e hb e2]; exact h1
            | some v => rw [itS_go e hb e2]; exact ih q2 _ _ hκ h1
        · rw [itS_dup e hb]; exact hk
  have hk := sk_le ha
  unfold clS
  split
  · next h => exact mono 0 _ _ _ _ (by decide) (sk_lt_of h.1 (by decide))
  · split
    · next h => exact mono 1 _ _ _ _ (by decide) (sk_lt_of h.1 (by decide))
    · split
      · next h => exact mono 2 _ _ _ _ (by decide) (sk_lt_of h.1 (by decide))
      · exact hk
theorem it_X12_readTown {l : Launch} {D : va_G} {cA ad : Nat → Nat} {d : Nat} {σ : AS} {K : Option Value → AS → Prop} {t : List Nat} (ht : TOK t) (hK1 : ∀ q τ, FrM (stT σ 112 0 t.length) τ → twS t 242 0 ps0 = (q, none) → K none (msa τ q q)) (hK2 : ∀ q s τ, FrM (stT σ 112 0 t.length) τ → twS t 242 0 ps0 = (q, some s) → PSM τ s → POK s → PRG s → K none (msa τ q (-1))) : ∀ (n a : Nat) (s : PS) (τ : AS), t.length - a < n → a ≤ t.length → RO τ → TX τ 112 0 t → FrM (stT σ 112 0 t.length) τ → PSM τ s → POK s → PRG s → twS t 242 0 ps0 = twS t n a s → Go l D cA ad (d + 7) mX12_readTown 55 [.ref 111, .int (iI 1)] [] (msa τ a (-1)) K := by
  have ht1 := ht.1
  intro n
  induction n with
  | zero => intro a s τ h; omega
  | succ n ih =>
  intro a s τ hn ha hR hX hfr hs hp hg hres
  refine go_iload_n dX12_readTown_55 rfl ?_
  refine go_if_eq (tgt := 111) dX12_readTown_56 (by decide) (fun h56 => ?_) (fun h56 => ?_)
  · exact absurd h56 (by decide)
  · refine go_aload_n dX12_readTown_59 rfl ?_
    refine go_getI fX12_128 dX12_readTown_60 rfl ?_
    refine go_iconst (v := iI (-1)) dX12_readTown_63 (by decide) ?_
    refine go_icmp_ne (tgt := 111) dX12_readTown_64 (by decide) (fun h64 => ?_) (fun h64 => ?_)
    · exfalso
      rw [msa_ft] at h64
      exact h64 rfl
    · refine go_aload_n dX12_readTown_67 rfl ?_
      refine go_callV (as := []) wX12_261 dX12_readTown_68 rfl rfl rfl rfl (Nat.le_of_ble_eq_true rfl) (ct_X12_readClause ht hR hX hs hp ha (fun q s' τ' fr hq => ?_) (fun q s' τ' fr hq hle hskq hs' hp' => ?_))
      · have hq9 : q ≤ 1000 := by
          have := clS_le (t := t) (s := s) ha
          rw [hq] at this
          dsimp only at this
          omega
        refine go_aload_n dX12_readTown_71 rfl ?_
        refine go_getI fX12_128 dX12_readTown_72 rfl ?_
        refine go_iconst (v := iI (-1)) dX12_readTown_75 (by decide) ?_
        refine go_icmp_ne (tgt := 92) dX12_readTown_76 (by decide) (fun h76 => ?_) (fun h76 => ?_)
        · refine go_iconst (v := iI 0) dX12_readTown_92 (by decide) ?_
          refine go_istore_n dX12_readTown_93 (Nat.le_of_ble_eq_true rfl) rfl ?_
          refine go_iload_n dX12_readTown_94 rfl ?_
          refine go_if_eq (tgt := 55) dX12_readTown_95 (by decide) (fun h95 => ?_) (fun h95 => ?_)
          · simp only [List.set]
            refine go_iload_n dX12_readTown_55 rfl ?_
            refine go_if_eq (tgt := 111) dX12_readTown_56 (by decide) (fun g56 => ?_) (fun g56 => ?_)
            · refine go_aload_n dX12_readTown_111 rfl ?_
              refine go_getI fX12_128 dX12_readTown_112 rfl ?_
              refine go_iconst (v := iI (-1)) dX12_readTown_115 (by decide) ?_
              refine go_icmp_ne (tgt := 139) dX12_readTown_116 (by decide) (fun h116 => ?_) (fun h116 => ?_)
              · refine go_vret rfl dX12_readTown_139 ?_
                exact hK1 _ _ (hfr.tr fr) (hres.trans (twS_f hq))
              · exfalso
                rw [msa_ft, iI_eq (by omega)] at h116
                omega
            · exact absurd g56 (by decide)
          · exact absurd h95 (by decide)
        · exfalso
          rw [msa_ft, iI_eq (by omega)] at h76
          omega
      · have hg' := clS_rng hq hg
        have hgt := clS_gt hq
        have hR' : RO τ' := fr.RO hR
        have hX' := fr.TX hX
        have hfr' := hfr.tr fr
        have hchq := ch_lt ht q
        refine go_aload_n dX12_readTown_71 rfl ?_
        refine go_getI fX12_128 dX12_readTown_72 rfl ?_
        refine go_iconst (v := iI (-1)) dX12_readTown_75 (by decide) ?_
        refine go_icmp_ne (tgt := 92) dX12_readTown_76 (by decide) (fun h76 => ?_) (fun h76 => ?_)
        · exfalso
          rw [msa_ft] at h76
          exact h76 rfl
        · refine go_aload_n dX12_readTown_79 rfl ?_
          refine go_callV (as := []) wX12_138 dX12_readTown_80 rfl rfl rfl rfl (Nat.le_of_ble_eq_true rfl) (ct_X12_look ht hX' hle ?_)
          rw [hskq]
          refine go_bipush (v := iI 59) dX12_readTown_83 (by decide) ?_
          refine go_icmp_ne (tgt := 92) dX12_readTown_85 (by decide) (fun h85 => ?_) (fun h85 => ?_)
          · rw [iI_eq (by omega)] at h85
            refine go_iconst (v := iI 0) dX12_readTown_92 (by decide) ?_
            refine go_istore_n dX12_readTown_93 (Nat.le_of_ble_eq_true rfl) rfl ?_
            refine go_iload_n dX12_readTown_94 rfl ?_
            refine go_if_eq (tgt := 55) dX12_readTown_95 (by decide) (fun h95 => ?_) (fun h95 => ?_)
            · simp only [List.set]
              refine go_iload_n dX12_readTown_55 rfl ?_
              refine go_if_eq (tgt := 111) dX12_readTown_56 (by decide) (fun g56 => ?_) (fun g56 => ?_)
              · refine go_aload_n dX12_readTown_111 rfl ?_
                refine go_getI fX12_128 dX12_readTown_112 rfl ?_
                refine go_iconst (v := iI (-1)) dX12_readTown_115 (by decide) ?_
                refine go_icmp_ne (tgt := 139) dX12_readTown_116 (by decide) (fun h116 => ?_) (fun h116 => ?_)
                · exfalso
                  rw [msa_ft] at h116
                  exact h116 rfl
                · refine go_aload_n dX12_readTown_119 rfl ?_
                  refine go_callV (as := []) wX12_138 dX12_readTown_120 rfl rfl rfl rfl (Nat.le_of_ble_eq_true rfl) (ct_X12_look ht hX' hle ?_)
                  rw [hskq]
                  refine go_iconst (v := iI (-1)) dX12_readTown_123 (by decide) ?_
                  refine go_icmp_ne (tgt := 134) dX12_readTown_124 (by decide) (fun h124 => ?_) (fun h124 => ?_)
                  · rw [iI_eq (by omega)] at h124
                    refine go_aload_n dX12_readTown_134 rfl ?_
                    refine go_callV (as := []) wX12_134 dX12_readTown_135 rfl rfl rfl rfl (Nat.le_of_ble_eq_true rfl) (ct_X12_fails ?_)
                    refine go_pop dX12_readTown_138 rfl ?_
                    refine go_vret rfl dX12_readTown_139 ?_
                    exact hK1 _ _ hfr' (hres.trans (twS_x hq h124 h85))
                  · rw [iI_eq (by omega)] at h124
                    refine go_aload_n dX12_readTown_127 rfl ?_
                    refine go_callV (as := []) wX12_264 dX12_readTown_128 rfl rfl rfl rfl (Nat.le_of_ble_eq_true rfl) (ct_X12_isWhole hR' (PSM_msa hs') hp' hg' ?_)
                    refine go_if_ne (tgt := 139) dX12_readTown_131 (by decide) (fun h131 => ?_) (fun h131 => ?_)
                    · have hwb : whB s' = true := by
                        cases e : whB s' with
                        | true => rfl
                        | false => rw [e] at h131; exact absurd rfl h131
                      refine go_vret rfl dX12_readTown_139 ?_
                      have hend := hres.trans (twS_e hq h124)
                      rw [if_pos hwb] at hend
                      exact hK2 _ _ _ hfr' hend hs' hp' hg'
                    · have hwb : ¬ whB s' = true := by
                        intro e
                        rw [if_pos e] at h131
                        exact absurd h131 (by decide)
                      refine go_aload_n dX12_readTown_134 rfl ?_
                      refine go_callV (as := []) wX12_134 dX12_readTown_135 rfl rfl rfl rfl (Nat.le_of_ble_eq_true rfl) (ct_X12_fails ?_)
                      refine go_pop dX12_readTown_138 rfl ?_
                      refine go_vret rfl dX12_readTown_139 ?_
                      have hend := hres.trans (twS_e hq h124)
                      rw [if_neg hwb] at hend
                      exact hK1 _ _ hfr' hend
              · exact absurd g56 (by decide)
            · exact absurd h95 (by decide)
          · rw [iI_eq (by omega)] at h85
            refine go_iconst (v := iI 1) dX12_readTown_88 (by decide) ?_
            refine go_goto (tgt := 93) dX12_readTown_89 (by decide) ?_
            refine go_istore_n dX12_readTown_93 (Nat.le_of_ble_eq_true rfl) rfl ?_
            refine go_iload_n dX12_readTown_94 rfl ?_
            refine go_if_eq (tgt := 55) dX12_readTown_95 (by decide) (fun h95 => ?_) (fun h95 => ?_)
            · exact absurd h95 (by decide)
            · refine go_aload_n dX12_readTown_98 rfl ?_
              refine go_dup dX12_readTown_99 rfl ?_
              refine go_getI fX12_119 dX12_readTown_100 rfl ?_
              refine go_iconst (v := iI 1) dX12_readTown_103 (by decide) ?_
              refine go_iadd dX12_readTown_104 ?_
              refine go_putI fX12_119 rfl dX12_readTown_105 rfl rfl rfl ?_
              refine go_goto (tgt := 55) dX12_readTown_108 (by decide) ?_
              rw [msa_inc]
              simp only [List.set]
              exact ih (q + 1) s' τ' (by omega) (lt_of_ch h85 (by decide)) hR' hX' hfr' hs' hp' hg' (hres.trans (twS_n hq h85))
theorem fl_X12_readTown {l : Launch} {D : va_G} {cA ad : Nat → Nat} {d : Nat} {σ : AS} {K : Option Value → AS → Prop} {a : Nat} (hR : RO σ) (hk : ∀ r, (∀ j, j < 3 → r j = iI (unK 0 j)) → Go l D cA ad (d + 1) mX12_readTown 55 [.ref 111, .int (iI 1)] [] (msa (sI σ 117 r) a (-1)) K) : ∀ (n k : Nat) (r : Nat → Int32), 3 - k < n → k ≤ 3 → (∀ j, j < k → r j = iI (unK 0 j)) → Go l D cA ad (d + 1) mX12_readTown 30 [.ref 111, .int (iI k)] [] (msa (sI σ 117 r) a (-1)) K := by
  intro n
  induction n with
  | zero => intro k r h; omega
  | succ n ih =>
  intro k r hn hk3 hr
  refine go_iload_n dX12_readTown_30 rfl ?_
  refine go_iconst (v := iI 3) dX12_readTown_31 (by decide) ?_
  refine go_icmp_ge (tgt := 53) dX12_readTown_32 (by decide) (fun h32 => ?_) (fun h32 => ?_)
  · rw [iI_le (by omega)] at h32
    refine go_iconst (v := iI 1) dX12_readTown_53 (by decide) ?_
    refine go_istore_n dX12_readTown_54 (Nat.le_of_ble_eq_true rfl) rfl ?_
    simp only [List.set]
    exact hk r (fun j hj => hr j (by omega))
  · rw [iI_le (by omega)] at h32
    refine go_aload_n dX12_readTown_35 rfl ?_
    refine go_getR fX12_40 dX12_readTown_36 rfl (hR _ _ _ rfl) ?_
    refine go_iload_n dX12_readTown_39 rfl ?_
    refine go_bipush (v := iI 115) dX12_readTown_40 (by decide) ?_
    refine go_iload_n dX12_readTown_42 rfl ?_
    refine go_callS (as := [_, _]) wX12_221 dX12_readTown_43 rfl rfl (Nat.le_of_ble_eq_true rfl) (ct_X12_usual (κ := 0) (by decide) (show k < 3 by omega) ?_)
    refine go_iast dX12_readTown_46 rfl (by exact vp_iI (by omega)) ?_
    refine go_iincI dX12_readTown_47 rfl (Nat.le_of_ble_eq_true rfl) rfl ?_
    refine go_goto (tgt := 30) dX12_readTown_50 (by decide) ?_
    rw [cl_n k (by omega), msa_row (by decide)]
    simp only [List.set, iI_add]
    exact ih (k + 1) _ (by omega) (by omega) (fun j hj => by
      by_cases e : j = k
      · subst e; rw [upd_same]
      · rw [upd_ne _ _ _ _ e]; exact hr j (by omega))
theorem ct_X12_readTown {l : Launch} {D : va_G} {cA ad : Nat → Nat} {d : Nat} {σ : AS} {K : Option Value → AS → Prop} {t : List Nat} (ht : TOK t) (hR : RO σ) (hT : TM σ t) (hK1 : ∀ q τ, FrM (stT σ 112 0 t.length) τ → twS t 242 0 ps0 = (q, none) → K none (msa τ q q)) (hK2 : ∀ q s τ, FrM (stT σ 112 0 t.length) τ → twS t 242 0 ps0 = (q, some s) → PSM τ s → POK s → PRG s → K none (msa τ q (-1))) : Call l D cA ad (d + 7) mX12_readTown [.ref 111] σ K := by
  have ht1 := ht.1
  refine call_go (by decide) (Nat.le_of_ble_eq_true rfl) (show Go l D cA ad (d + 7) mX12_readTown 0 [.ref 111, .null] [] σ K from ?_)
  refine go_aload_n dX12_readTown_0 rfl ?_
  refine go_aload_n dX12_readTown_1 rfl ?_
  refine go_getR fX12_9 dX12_readTown_2 rfl (hR _ _ _ rfl) ?_
  refine go_iconst (v := iI 0) dX12_readTown_5 (by decide) ?_
  refine go_aload_n dX12_readTown_6 rfl ?_
  refine go_getI fX12_109 dX12_readTown_7 rfl ?_
  rw [hT.1]
  refine go_callV (as := [_, _, _]) wX12_207 dX12_readTown_10 rfl rfl rfl rfl (Nat.le_of_ble_eq_true rfl) (ct_X12_starts (b := 0) (n := t.length) ?_)
  refine go_aload_n dX12_readTown_13 rfl ?_
  refine go_iconst (v := iI 0) dX12_readTown_14 (by decide) ?_
  refine go_putI fX12_245 rfl dX12_readTown_15 rfl rfl rfl ?_
  rw [msa_fset (by decide) (by decide)]
  refine go_aload_n dX12_readTown_18 rfl ?_
  refine go_iconst (v := iI 0) dX12_readTown_19 (by decide) ?_
  refine go_putI fX12_248 rfl dX12_readTown_20 rfl rfl rfl ?_
  rw [msa_fset (by decide) (by decide)]
  refine go_aload_n dX12_readTown_23 rfl ?_
  refine go_iconst (v := iI 0) dX12_readTown_24 (by decide) ?_
  refine go_putI fX12_242 rfl dX12_readTown_25 rfl rfl rfl ?_
  rw [msa_fset (by decide) (by decide)]
  refine go_iconst (v := iI 0) dX12_readTown_28 (by decide) ?_
  refine go_istore_n dX12_readTown_29 (Nat.le_of_ble_eq_true rfl) rfl ?_
  simp only [List.set]
  generalize hτ : sI (sI (sI (stT σ 112 0 t.length) 111 (upd ((stT σ 112 0 t.length).1 111) 28 (iI 0))) 111 (upd ((sI (stT σ 112 0 t.length) 111 (upd ((stT σ 112 0 t.length).1 111) 28 (iI 0))).1 111) 29 (iI 0))) 111 (upd ((sI (sI (stT σ 112 0 t.length) 111 (upd ((stT σ 112 0 t.length).1 111) 28 (iI 0))) 111 (upd ((sI (stT σ 112 0 t.length) 111 (upd ((stT σ 112 0 t.length).1 111) 28 (iI 0))).1 111) 29 (iI 0))).1 111) 31 (iI 0)) = τ
  have hfr : FrM (stT σ 112 0 t.length) τ := by rw [← hτ]; exact ((FrM.rf.fd (by decide)).fd (by decide)).fd (by decide)
  have h28 : τ.1 111 28 = iI 0 := by rw [← hτ, sI_same, upd_ne _ _ _ _ (by decide), sI_same, upd_ne _ _ _ _ (by decide), sI_same, upd_same]
  have h29 : τ.1 111 29 = iI 0 := by rw [← hτ, sI_same, upd_ne _ _ _ _ (by decide), sI_same, upd_same]
  have h31 : τ.1 111 31 = iI 0 := by rw [← hτ, sI_same, upd_same]
  have hR1 : RO τ := hfr.RO (RO_stT hR)
  have hX1 := hfr.TX (stT_TX hT ht1)
  have := fl_X12_readTown (l := l) (D := D) (cA := cA) (ad := ad) (d := d + 6) (K := K) (a := 0) hR1 (fun r hr => ?_) 4 0 (τ.1 117) (by omega) (by omega) (fun j hj => by omega)
  · rw [sI_self] at this
    exact this
  · refine it_X12_readTown ht hK1 hK2 242 0 ps0 _ (by omega) (by omega) hR1 (TX_sI hX1 (by decide) (by decide) (by decide)) (hfr.sI (by decide)) ⟨?_, ?_, ?_, fun j hj => ?_, fun i j hi => absurd hi (Nat.not_lt_zero i), fun i j hi => absurd hi (Nat.not_lt_zero i)⟩ ⟨by decide, by decide, by decide, fun _ => rfl⟩ ⟨fun j hj => ?_, fun i j hi => absurd hi (Nat.not_lt_zero i), fun i j hi => absurd hi (Nat.not_lt_zero i)⟩ rfl
    · rw [sI_ne _ _ _ _ (by decide)]; exact h31
    · rw [sI_ne _ _ _ _ (by decide)]; exact h28
    · rw [sI_ne _ _ _ _ (by decide)]; exact h29
    · rw [sI_same]; exact hr j hj
    · have h1 := un_rng 0 (by decide) j hj
      rw [(sky_lo j hj).1, (sky_lo j hj).2] at h1
      exact h1

