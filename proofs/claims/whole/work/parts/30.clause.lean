/-! a clause of a town: (skies, ponds, pipes, sky, pond rows, pipe rows) -/
abbrev PS : Type := Nat × Nat × Nat × (Nat → Int) × (Nat → Nat → Int) × (Nat → Nat → Int)
theorem AS_ext {σ τ : AS} (h : ∀ k, σ.1 k = τ.1 k) (h2 : σ.2 = τ.2) : σ = τ := Prod.ext (funext h) h2
def Fr (lo hi : Nat) (σ τ : AS) : Prop := τ.2 = σ.2 ∧ ∀ k, k < lo ∨ hi < k → τ.1 k = σ.1 k
theorem Fr.rf {lo hi : Nat} {σ : AS} : Fr lo hi σ σ := ⟨rfl, fun _ _ => rfl⟩
theorem Fr.tr {lo hi : Nat} {σ τ ρ : AS} (h : Fr lo hi σ τ) (g : Fr lo hi τ ρ) : Fr lo hi σ ρ := ⟨g.1.trans h.1, fun k hk => (g.2 k hk).trans (h.2 k hk)⟩
theorem Fr.sI {lo hi k : Nat} {σ τ : AS} {f : Nat → Int32} (h : Fr lo hi σ τ) (h1 : lo ≤ k) (h2 : k ≤ hi) : Fr lo hi σ (sI τ k f) := ⟨h.1, fun j hj => by rw [sI_ne _ _ _ _ (by omega)]; exact h.2 j hj⟩
theorem Fr.RO {lo hi : Nat} {σ τ : AS} (h : Fr lo hi σ τ) (hR : RO σ) : RO τ := by
  intro k j a e
  have := hR k j a e
  rw [show τ.2.2 = σ.2.2 by rw [h.1]]
  exact this
theorem Fr.TC {lo hi : Nat} {σ τ : AS} {t : List Nat} (h : Fr lo hi σ τ) (hT : TC σ t) (hl : 2 < lo) : TC τ t := ⟨by rw [h.2 1 (by omega)]; exact hT.1, fun i b hb => by rw [h.2 2 (by omega)]; exact hT.2 i b hb⟩
def clS (t : List Nat) (a : Nat) (s : PS) : Nat × Bool × PS :=
  if ch t (sk t a) = 115 ∧ s.1 < 1 then ((itS t 0 (kN 0 + 1) (sk t a + 1) 0 (unK 0)).1, (itS t 0 (kN 0 + 1) (sk t a + 1) 0 (unK 0)).2.1, (s.1 + 1, s.2.1, s.2.2.1, (itS t 0 (kN 0 + 1) (sk t a + 1) 0 (unK 0)).2.2, s.2.2.2.2.1, s.2.2.2.2.2))
  else if ch t (sk t a) = 112 ∧ s.2.1 < 7 then ((itS t 1 (kN 1 + 1) (sk t a + 1) 0 (unK 1)).1, (itS t 1 (kN 1 + 1) (sk t a + 1) 0 (unK 1)).2.1, (s.1, s.2.1 + 1, s.2.2.1, s.2.2.2.1, (fun i => if i = s.2.1 then (itS t 1 (kN 1 + 1) (sk t a + 1) 0 (unK 1)).2.2 else s.2.2.2.2.1 i), s.2.2.2.2.2))
  else if ch t (sk t a) = 105 ∧ s.2.2.1 < 9 then ((itS t 2 (kN 2 + 1) (sk t a + 1) 0 (unK 2)).1, (itS t 2 (kN 2 + 1) (sk t a + 1) 0 (unK 2)).2.1, (s.1, s.2.1, s.2.2.1 + 1, s.2.2.2.1, s.2.2.2.2.1, (fun i => if i = s.2.2.1 then (itS t 2 (kN 2 + 1) (sk t a + 1) 0 (unK 2)).2.2 else s.2.2.2.2.2 i)))
  else (sk t a, false, s)
def PSC (σ : AS) (s : PS) : Prop := σ.1 23 3 = iI s.1 ∧ σ.1 23 4 = iI s.2.1 ∧ σ.1 23 5 = iI s.2.2.1 ∧ (∀ j, j < 3 → σ.1 24 j = iI (s.2.2.2.1 j)) ∧ (∀ i j, i < s.2.1 → j < 9 → σ.1 (26 + i) j = iI (s.2.2.2.2.1 i j)) ∧ (∀ i j, i < s.2.2.1 → j < 5 → σ.1 (34 + i) j = iI (s.2.2.2.2.2 i j))
def POK (s : PS) : Prop := s.1 ≤ 1 ∧ s.2.1 ≤ 7 ∧ s.2.2.1 ≤ 9 ∧ (s.1 = 0 → s.2.2.2.1 = unK 0)
theorem r25 : ∀ i, i < 7 → R0 25 i = some (26 + i) ∧ sh[26 + i]? = some (1, 9) ∧ R0 5 i = some (6 + i) ∧ sh[6 + i]? = some (1, 9) := by decide +kernel
theorem r33 : ∀ i, i < 9 → R0 33 i = some (34 + i) ∧ sh[34 + i]? = some (1, 5) ∧ R0 13 i = some (14 + i) ∧ sh[14 + i]? = some (1, 5) := by decide +kernel
theorem atc_fd {τ : AS} {a k f : Nat} {v : Int32} (h1 : k ≠ 1) : sI (atc τ a) k (upd ((atc τ a).1 k) f v) = atc (sI τ k (upd (τ.1 k) f v)) a := by
  rw [atc_ne _ _ _ h1]
  unfold atc
  rw [sI_comm _ 1 k _ _ (fun q => h1 q.symm), sI_ne τ k 1 _ (fun q => h1 q.symm)]
theorem atc_sI {τ : AS} {a k : Nat} {r : Nat → Int32} (h1 : k ≠ 1) : sI (atc τ a) k r = atc (sI τ k r) a := by
  unfold atc
  rw [sI_comm _ 1 k _ _ (fun q => h1 q.symm), sI_ne τ k 1 _ (fun q => h1 q.symm)]
theorem sI_fd {τ : AS} {k w f : Nat} {r : Nat → Int32} {v : Int32} (h : k ≠ w) : sI (sI τ w r) k (upd ((sI τ w r).1 k) f v) = sI (sI τ k (upd (τ.1 k) f v)) w r := by
  rw [sI_ne _ _ _ _ h, sI_comm _ w k _ _ (fun q => h q.symm)]
theorem clS_s {t : List Nat} {a : Nat} {s : PS} (h : ch t (sk t a) = 115) (h2 : s.1 < 1) {q : Nat} {b : Bool} {row : Nat → Int} (e : itS t 0 (kN 0 + 1) (sk t a + 1) 0 (unK 0) = (q, b, row)) : clS t a s = (q, b, (s.1 + 1, s.2.1, s.2.2.1, row, s.2.2.2.2.1, s.2.2.2.2.2)) := by
  unfold clS; rw [if_pos ⟨h, h2⟩, e]
theorem clS_p {t : List Nat} {a : Nat} {s : PS} (h : ch t (sk t a) = 112) (h2 : s.2.1 < 7) {q : Nat} {b : Bool} {row : Nat → Int} (e : itS t 1 (kN 1 + 1) (sk t a + 1) 0 (unK 1) = (q, b, row)) : clS t a s = (q, b, (s.1, s.2.1 + 1, s.2.2.1, s.2.2.2.1, (fun i => if i = s.2.1 then row else s.2.2.2.2.1 i), s.2.2.2.2.2)) := by
  unfold clS; rw [if_neg (by omega), if_pos ⟨h, h2⟩, e]
theorem clS_i {t : List Nat} {a : Nat} {s : PS} (h : ch t (sk t a) = 105) (h2 : s.2.2.1 < 9) {q : Nat} {b : Bool} {row : Nat → Int} (e : itS t 2 (kN 2 + 1) (sk t a + 1) 0 (unK 2) = (q, b, row)) : clS t a s = (q, b, (s.1, s.2.1, s.2.2.1 + 1, s.2.2.2.1, s.2.2.2.2.1, (fun i => if i = s.2.2.1 then row else s.2.2.2.2.2 i))) := by
  unfold clS; rw [if_neg (by omega), if_neg (by omega), if_pos ⟨h, h2⟩, e]
theorem clS_0 {t : List Nat} {a : Nat} {s : PS} (h1 : ¬ (ch t (sk t a) = 115 ∧ s.1 < 1)) (h2 : ¬ (ch t (sk t a) = 112 ∧ s.2.1 < 7)) (h3 : ¬ (ch t (sk t a) = 105 ∧ s.2.2.1 < 9)) : clS t a s = (sk t a, false, s) := by
  unfold clS; rw [if_neg h1, if_neg h2, if_neg h3]
theorem kv_un {κ j : Nat} (hκ : κ < 3) (hj : j < kN κ) : (stV (3 * κ)).getD j 0 = iI (unK κ j) := (kV_ok κ hκ j hj).1
theorem ct_X9_readClause {l : Launch} {D : va_G} {cA ad : Nat → Nat} {d : Nat} {τ : AS} {K : Option Value → AS → Prop} {t : List Nat} {a : Nat} {s : PS} (ht : TOK t) (hR : RO τ) (hT : TC τ t) (hs : PSC τ s) (hp : POK s) (ha : a ≤ t.length) (hK1 : ∀ q τ', Fr 23 42 τ τ' → (∃ b s', clS t a s = (q, b, s') ∧ (b = true → ch t q ≠ -1 ∧ ch t q ≠ 59)) → K (some (.int (iI 0))) (atc τ' q)) (hK2 : ∀ q s' τ', Fr 23 42 τ τ' → clS t a s = (q, true, s') → q ≤ t.length → (ch t q = -1 ∨ ch t q = 59) → PSC τ' s' → POK s' → K (some (.int (iI 1))) (atc τ' q)) : Call l D cA ad (d + 5) mX9_readClause [.ref 23, .ref 1] (atc τ a) K := by
  have ht1 := ht.1
  have hch := ch_lt ht (sk t a)
  have hp0 := hp.1
  have hpP := hp.2.1
  have hpQ := hp.2.2.1
  have hsk := sk_le ha
  refine call_go (by decide) (Nat.le_of_ble_eq_true rfl) (show Go l D cA ad (d + 5) mX9_readClause 0 [.ref 23, .ref 1, .null] [] (atc τ a) K from ?_)
  refine go_aload_n dX9_readClause_0 rfl ?_
  refine go_callV (as := []) wX9_61 dX9_readClause_1 rfl rfl rfl rfl (Nat.le_of_ble_eq_true rfl) (ct_X8_look ht hR hT ha ?_)
  refine go_istore_n dX9_readClause_4 (Nat.le_of_ble_eq_true rfl) rfl ?_
  refine go_iload_n dX9_readClause_5 rfl ?_
  refine go_bipush (v := iI 115) dX9_readClause_6 (by decide) ?_
  refine go_icmp_ne (tgt := 56) dX9_readClause_8 (by decide) (fun h8 => ?_) (fun h8 => ?_)
  · rw [iI_eq (by omega)] at h8
    refine go_iload_n dX9_readClause_56 rfl ?_
    refine go_bipush (v := iI 112) dX9_readClause_57 (by decide) ?_
    refine go_icmp_ne (tgt := 130) dX9_readClause_59 (by decide) (fun h59 => ?_) (fun h59 => ?_)
    · rw [iI_eq (by omega)] at h59
      refine go_iload_n dX9_readClause_130 rfl ?_
      refine go_bipush (v := iI 105) dX9_readClause_131 (by decide) ?_
      refine go_icmp_ne (tgt := 204) dX9_readClause_133 (by decide) (fun h133 => ?_) (fun h133 => ?_)
      · rw [iI_eq (by omega)] at h133
        refine go_iconst (v := iI 0) dX9_readClause_204 (by decide) ?_
        refine go_iret rfl rfl dX9_readClause_205 ?_
        exact hK1 _ _ Fr.rf ⟨false, s, clS_0 (by omega) (by omega) (by omega), fun q => by cases q⟩
      · rw [iI_eq (by omega)] at h133
        refine go_aload_n dX9_readClause_136 rfl ?_
        refine go_getI fX9_39 dX9_readClause_137 rfl ?_
        refine go_bipush (v := iI 9) dX9_readClause_140 (by decide) ?_
        refine go_icmp_ge (tgt := 204) dX9_readClause_142 (by decide) (fun h142 => ?_) (fun h142 => ?_)
        · rw [atc_ne _ _ _ (by decide), hs.2.2.1, iI_le (by omega)] at h142
          refine go_iconst (v := iI 0) dX9_readClause_204 (by decide) ?_
          refine go_iret rfl rfl dX9_readClause_205 ?_
          exact hK1 _ _ Fr.rf ⟨false, s, clS_0 (by omega) (by omega) (by omega), fun q => by cases q⟩
        · rw [atc_ne _ _ _ (by decide), hs.2.2.1, iI_le (by omega)] at h142
          refine go_aload_n dX9_readClause_145 rfl ?_
          refine go_dup dX9_readClause_146 rfl ?_
          refine go_getI fX9_46 dX9_readClause_147 rfl ?_
          refine go_iconst (v := iI 1) dX9_readClause_150 (by decide) ?_
          refine go_iadd dX9_readClause_151 ?_
          refine go_putI fX9_46 rfl dX9_readClause_152 rfl rfl rfl ?_
          rw [atc_inc]
          have hp1 : sk t a + 1 ≤ t.length := by
            rcases Nat.lt_or_ge (sk t a) t.length with q | q
            · exact q
            · have := ch_out q; omega
          refine go_gets (j := 6) (by decide) rfl dX9_readClause_155 ?_
          refine go_aload_n dX9_readClause_158 rfl ?_
          refine go_getR fX9_32 dX9_readClause_159 rfl (hR _ _ _ rfl) ?_
          refine go_aload_n dX9_readClause_162 rfl ?_
          refine go_getI fX9_39 dX9_readClause_163 rfl ?_
          refine go_aald dX9_readClause_166 rfl (by decide) (by rw [atc_ne _ _ _ (by decide), hs.2.2.1]; exact vp_iI (by omega)) (by rw [atc_ne _ _ _ (by decide), hs.2.2.1, cl_n _ (by omega)]; exact hR _ _ _ (r33 s.2.2.1 (by omega)).1) ?_
          refine go_callS (as := [_, _]) wX9_42 dX9_readClause_167 rfl rfl (Nat.le_of_ble_eq_true rfl) (ct_X9_copyRow_t (j := 6) (n := 5) (by decide) (r33 s.2.2.1 (by omega)).2.1 rfl (by omega) (fun r0 hr0 => ?_))
          rw [atc_sI (by omega)]
          refine go_aload_n dX9_readClause_170 rfl ?_
          refine go_dup dX9_readClause_171 rfl ?_
          refine go_getI fX9_39 dX9_readClause_172 rfl ?_
          refine go_iconst (v := iI 1) dX9_readClause_175 (by decide) ?_
          refine go_iadd dX9_readClause_176 ?_
          refine go_putI fX9_39 rfl dX9_readClause_177 rfl rfl rfl ?_
          rw [atc_fd (by decide), sI_fd (by omega)]
          have e9 : (sI τ (34 + s.2.2.1) r0).1 23 5 = iI s.2.2.1 := by rw [sI_ne _ _ _ _ (by omega)]; exact hs.2.2.1
          have e8 : (atc (sI τ (34 + s.2.2.1) r0) (sk t a + 1)).1 23 5 = iI s.2.2.1 := by rw [atc_ne _ _ _ (by decide)]; exact e9
          rw [e8, iI_add, show ((s.2.2.1 : Int) + 1) = ((s.2.2.1 + 1 : Nat) : Int) by omega]
          have e7 : ∀ r : Nat → Int32, (atc (sI (sI τ 23 (upd (τ.1 23) 5 (iI ((s.2.2.1 + 1 : Nat) : Int)))) (34 + s.2.2.1) r) (sk t a + 1)).1 23 5 - iI 1 = iI s.2.2.1 := by
            intro r
            rw [atc_ne _ _ _ (by decide), sI_ne _ _ _ _ (by omega), sI_same, upd_same, iI_sub]
            congr 1
            omega
          refine go_aload_n dX9_readClause_180 rfl ?_
          refine go_ldcS (i := 2) (by decide) rfl dX9_readClause_181 ?_
          refine go_gets (j := 7) (by decide) rfl dX9_readClause_183 ?_
          refine go_gets (j := 8) (by decide) rfl dX9_readClause_186 ?_
          refine go_aload_n dX9_readClause_189 rfl ?_
          refine go_getR fX9_32 dX9_readClause_190 rfl (hR _ _ _ rfl) ?_
          refine go_aload_n dX9_readClause_193 rfl ?_
          refine go_getI fX9_39 dX9_readClause_194 rfl ?_
          refine go_iconst (v := iI 1) dX9_readClause_197 (by decide) ?_
          refine go_isub dX9_readClause_198 ?_
          refine go_aald dX9_readClause_199 rfl (by decide) (by rw [e7]; exact vp_iI (by omega)) (by rw [e7, cl_n _ (by omega)]; exact hR _ _ _ (r33 s.2.2.1 (by omega)).1) ?_
          refine go_callS (as := [_, _, _, _, _]) wX9_78 dX9_readClause_200 rfl rfl (Nat.le_of_ble_eq_true rfl) (ct_X9_readItems (κ := 2) (rw := 34 + s.2.2.1) (row0 := unK 2) (by decide) ht hR (TC_sI hT (by decide) (by decide)) (r33 s.2.2.1 (by omega)).2.1 (by omega) (by omega) hp1 (fun j hj => ?_) (fun q r hq => ?_) (fun q row r hq hle hc hr => ?_))
          · rw [hr0 j hj]; exact kv_un (κ := 2) (by decide) hj
          · refine go_iret rfl rfl dX9_readClause_203 ?_
            obtain ⟨b, row, e1, e2⟩ := hq
            exact hK1 _ _ ((Fr.rf.sI (by decide) (by decide)).sI (by omega) (by omega)) ⟨b, _, clS_i h133 (by omega) e1, e2⟩
          · refine go_iret rfl rfl dX9_readClause_203 ?_
            refine hK2 _ _ _ ((Fr.rf.sI (by decide) (by decide)).sI (by omega) (by omega)) (clS_i h133 (by omega) hq) hle hc ⟨?_, ?_, ?_, fun j hj => ?_, fun i j hi hj => ?_, fun i j hi hj => ?_⟩ ⟨hp.1, hp.2.1, by show s.2.2.1 + 1 ≤ 9; omega, hp.2.2.2⟩
            · rw [sI_ne _ _ _ _ (by omega), sI_same, upd_ne _ _ _ _ (by decide)]; exact hs.1
            · rw [sI_ne _ _ _ _ (by omega), sI_same, upd_ne _ _ _ _ (by decide)]; exact hs.2.1
            · rw [sI_ne _ _ _ _ (by omega), sI_same, upd_same]
            · rw [sI_ne _ _ _ _ (by omega), sI_ne _ _ _ _ (by decide)]; exact hs.2.2.2.1 j hj
            · dsimp only at hi ⊢
              rw [sI_ne _ _ _ _ (by omega), sI_ne _ _ _ _ (by omega)]; exact hs.2.2.2.2.1 i j hi hj
            · dsimp only at hi ⊢
              by_cases e : i = s.2.2.1
              · subst e; rw [sI_same, if_pos rfl]; exact hr j hj
              · rw [sI_ne _ _ _ _ (by omega), sI_ne _ _ _ _ (by omega), if_neg e]; exact hs.2.2.2.2.2 i j (by omega) hj
    · rw [iI_eq (by omega)] at h59
      refine go_aload_n dX9_readClause_62 rfl ?_
      refine go_getI fX9_35 dX9_readClause_63 rfl ?_
      refine go_bipush (v := iI 7) dX9_readClause_66 (by decide) ?_
      refine go_icmp_ge (tgt := 130) dX9_readClause_68 (by decide) (fun h68 => ?_) (fun h68 => ?_)
      · rw [atc_ne _ _ _ (by decide), hs.2.1, iI_le (by omega)] at h68
        refine go_iload_n dX9_readClause_130 rfl ?_
        refine go_bipush (v := iI 105) dX9_readClause_131 (by decide) ?_
        refine go_icmp_ne (tgt := 204) dX9_readClause_133 (by decide) (fun h133 => ?_) (fun h133 => ?_)
        · rw [iI_eq (by omega)] at h133
          refine go_iconst (v := iI 0) dX9_readClause_204 (by decide) ?_
          refine go_iret rfl rfl dX9_readClause_205 ?_
          exact hK1 _ _ Fr.rf ⟨false, s, clS_0 (by omega) (by omega) (by omega), fun q => by cases q⟩
        · rw [iI_eq (by omega)] at h133
          refine go_aload_n dX9_readClause_136 rfl ?_
          refine go_getI fX9_39 dX9_readClause_137 rfl ?_
          refine go_bipush (v := iI 9) dX9_readClause_140 (by decide) ?_
          refine go_icmp_ge (tgt := 204) dX9_readClause_142 (by decide) (fun h142 => ?_) (fun h142 => ?_)
          · rw [atc_ne _ _ _ (by decide), hs.2.2.1, iI_le (by omega)] at h142
            refine go_iconst (v := iI 0) dX9_readClause_204 (by decide) ?_
            refine go_iret rfl rfl dX9_readClause_205 ?_
            exact hK1 _ _ Fr.rf ⟨false, s, clS_0 (by omega) (by omega) (by omega), fun q => by cases q⟩
          · rw [atc_ne _ _ _ (by decide), hs.2.2.1, iI_le (by omega)] at h142
            refine go_aload_n dX9_readClause_145 rfl ?_
            refine go_dup dX9_readClause_146 rfl ?_
            refine go_getI fX9_46 dX9_readClause_147 rfl ?_
            refine go_iconst (v := iI 1) dX9_readClause_150 (by decide) ?_
            refine go_iadd dX9_readClause_151 ?_
            refine go_putI fX9_46 rfl dX9_readClause_152 rfl rfl rfl ?_
            rw [atc_inc]
            have hp1 : sk t a + 1 ≤ t.length := by
              rcases Nat.lt_or_ge (sk t a) t.length with q | q
              · exact q
              · have := ch_out q; omega
            refine go_gets (j := 6) (by decide) rfl dX9_readClause_155 ?_
            refine go_aload_n dX9_readClause_158 rfl ?_
            refine go_getR fX9_32 dX9_readClause_159 rfl (hR _ _ _ rfl) ?_
            refine go_aload_n dX9_readClause_162 rfl ?_
            refine go_getI fX9_39 dX9_readClause_163 rfl ?_
            refine go_aald dX9_readClause_166 rfl (by decide) (by rw [atc_ne _ _ _ (by decide), hs.2.2.1]; exact vp_iI (by omega)) (by rw [atc_ne _ _ _ (by decide), hs.2.2.1, cl_n _ (by omega)]; exact hR _ _ _ (r33 s.2.2.1 (by omega)).1) ?_
            refine go_callS (as := [_, _]) wX9_42 dX9_readClause_167 rfl rfl (Nat.le_of_ble_eq_true rfl) (ct_X9_copyRow_t (j := 6) (n := 5) (by decide) (r33 s.2.2.1 (by omega)).2.1 rfl (by omega) (fun r0 hr0 => ?_))
            rw [atc_sI (by omega)]
            refine go_aload_n dX9_readClause_170 rfl ?_
            refine go_dup dX9_readClause_171 rfl ?_
            refine go_getI fX9_39 dX9_readClause_172 rfl ?_
            refine go_iconst (v := iI 1) dX9_readClause_175 (by decide) ?_
            refine go_iadd dX9_readClause_176 ?_
            refine go_putI fX9_39 rfl dX9_readClause_177 rfl rfl rfl ?_
            rw [atc_fd (by decide), sI_fd (by omega)]
            have e9 : (sI τ (34 + s.2.2.1) r0).1 23 5 = iI s.2.2.1 := by rw [sI_ne _ _ _ _ (by omega)]; exact hs.2.2.1
            have e8 : (atc (sI τ (34 + s.2.2.1) r0) (sk t a + 1)).1 23 5 = iI s.2.2.1 := by rw [atc_ne _ _ _ (by decide)]; exact e9
            rw [e8, iI_add, show ((s.2.2.1 : Int) + 1) = ((s.2.2.1 + 1 : Nat) : Int) by omega]
            have e7 : ∀ r : Nat → Int32, (atc (sI (sI τ 23 (upd (τ.1 23) 5 (iI ((s.2.2.1 + 1 : Nat) : Int)))) (34 + s.2.2.1) r) (sk t a + 1)).1 23 5 - iI 1 = iI s.2.2.1 := by
              intro r
              rw [atc_ne _ _ _ (by decide), sI_ne _ _ _ _ (by omega), sI_same, upd_same, iI_sub]
              congr 1
              omega
            refine go_aload_n dX9_readClause_180 rfl ?_
            refine go_ldcS (i := 2) (by decide) rfl dX9_readClause_181 ?_
            refine go_gets (j := 7) (by decide) rfl dX9_readClause_183 ?_
            refine go_gets (j := 8) (by decide) rfl dX9_readClause_186 ?_
            refine go_aload_n dX9_readClause_189 rfl ?_
            refine go_getR fX9_32 dX9_readClause_190 rfl (hR _ _ _ rfl) ?_
            refine go_aload_n dX9_readClause_193 rfl ?_
            refine go_getI fX9_39 dX9_readClause_194 rfl ?_
            refine go_iconst (v := iI 1) dX9_readClause_197 (by decide) ?_
            refine go_isub dX9_readClause_198 ?_
            refine go_aald dX9_readClause_199 rfl (by decide) (by rw [e7]; exact vp_iI (by omega)) (by rw [e7, cl_n _ (by omega)]; exact hR _ _ _ (r33 s.2.2.1 (by omega)).1) ?_
            refine go_callS (as := [_, _, _, _, _]) wX9_78 dX9_readClause_200 rfl rfl (Nat.le_of_ble_eq_true rfl) (ct_X9_readItems (κ := 2) (rw := 34 + s.2.2.1) (row0 := unK 2) (by decide) ht hR (TC_sI hT (by decide) (by decide)) (r33 s.2.2.1 (by omega)).2.1 (by omega) (by omega) hp1 (fun j hj => ?_) (fun q r hq => ?_) (fun q row r hq hle hc hr => ?_))
            · rw [hr0 j hj]; exact kv_un (κ := 2) (by decide) hj
            · refine go_iret rfl rfl dX9_readClause_203 ?_
              obtain ⟨b, row, e1, e2⟩ := hq
              exact hK1 _ _ ((Fr.rf.sI (by decide) (by decide)).sI (by omega) (by omega)) ⟨b, _, clS_i h133 (by omega) e1, e2⟩
            · refine go_iret rfl rfl dX9_readClause_203 ?_
              refine hK2 _ _ _ ((Fr.rf.sI (by decide) (by decide)).sI (by omega) (by omega)) (clS_i h133 (by omega) hq) hle hc ⟨?_, ?_, ?_, fun j hj => ?_, fun i j hi hj => ?_, fun i j hi hj => ?_⟩ ⟨hp.1, hp.2.1, by show s.2.2.1 + 1 ≤ 9; omega, hp.2.2.2⟩
              · rw [sI_ne _ _ _ _ (by omega), sI_same, upd_ne _ _ _ _ (by decide)]; exact hs.1
              · rw [sI_ne _ _ _ _ (by omega), sI_same, upd_ne _ _ _ _ (by decide)]; exact hs.2.1
              · rw [sI_ne _ _ _ _ (by omega), sI_same, upd_same]
              · rw [sI_ne _ _ _ _ (by omega), sI_ne _ _ _ _ (by decide)]; exact hs.2.2.2.1 j hj
              · dsimp only at hi ⊢
                rw [sI_ne _ _ _ _ (by omega), sI_ne _ _ _ _ (by omega)]; exact hs.2.2.2.2.1 i j hi hj
              · dsimp only at hi ⊢
                by_cases e : i = s.2.2.1
                · subst e; rw [sI_same, if_pos rfl]; exact hr j hj
                · rw [sI_ne _ _ _ _ (by omega), sI_ne _ _ _ _ (by omega), if_neg e]; exact hs.2.2.2.2.2 i j (by omega) hj
      · rw [atc_ne _ _ _ (by decide), hs.2.1, iI_le (by omega)] at h68
        refine go_aload_n dX9_readClause_71 rfl ?_
        refine go_dup dX9_readClause_72 rfl ?_
        refine go_getI fX9_46 dX9_readClause_73 rfl ?_
        refine go_iconst (v := iI 1) dX9_readClause_76 (by decide) ?_
        refine go_iadd dX9_readClause_77 ?_
        refine go_putI fX9_46 rfl dX9_readClause_78 rfl rfl rfl ?_
        rw [atc_inc]
        have hp1 : sk t a + 1 ≤ t.length := by
          rcases Nat.lt_or_ge (sk t a) t.length with q | q
          · exact q
          · have := ch_out q; omega
        refine go_gets (j := 3) (by decide) rfl dX9_readClause_81 ?_
        refine go_aload_n dX9_readClause_84 rfl ?_
        refine go_getR fX9_27 dX9_readClause_85 rfl (hR _ _ _ rfl) ?_
        refine go_aload_n dX9_readClause_88 rfl ?_
        refine go_getI fX9_35 dX9_readClause_89 rfl ?_
        refine go_aald dX9_readClause_92 rfl (by decide) (by rw [atc_ne _ _ _ (by decide), hs.2.1]; exact vp_iI (by omega)) (by rw [atc_ne _ _ _ (by decide), hs.2.1, cl_n _ (by omega)]; exact hR _ _ _ (r25 s.2.1 (by omega)).1) ?_
        refine go_callS (as := [_, _]) wX9_42 dX9_readClause_93 rfl rfl (Nat.le_of_ble_eq_true rfl) (ct_X9_copyRow_t (j := 3) (n := 9) (by decide) (r25 s.2.1 (by omega)).2.1 rfl (by omega) (fun r0 hr0 => ?_))
        rw [atc_sI (by omega)]
        refine go_aload_n dX9_readClause_96 rfl ?_
        refine go_dup dX9_readClause_97 rfl ?_
        refine go_getI fX9_35 dX9_readClause_98 rfl ?_
        refine go_iconst (v := iI 1) dX9_readClause_101 (by decide) ?_
        refine go_iadd dX9_readClause_102 ?_
        refine go_putI fX9_35 rfl dX9_readClause_103 rfl rfl rfl ?_
        rw [atc_fd (by decide), sI_fd (by omega)]
        have e9 : (sI τ (26 + s.2.1) r0).1 23 4 = iI s.2.1 := by rw [sI_ne _ _ _ _ (by omega)]; exact hs.2.1
        have e8 : (atc (sI τ (26 + s.2.1) r0) (sk t a + 1)).1 23 4 = iI s.2.1 := by rw [atc_ne _ _ _ (by decide)]; exact e9
        rw [e8, iI_add, show ((s.2.1 : Int) + 1) = ((s.2.1 + 1 : Nat) : Int) by omega]
        have e7 : ∀ r : Nat → Int32, (atc (sI (sI τ 23 (upd (τ.1 23) 4 (iI ((s.2.1 + 1 : Nat) : Int)))) (26 + s.2.1) r) (sk t a + 1)).1 23 4 - iI 1 = iI s.2.1 := by
          intro r
          rw [atc_ne _ _ _ (by decide), sI_ne _ _ _ _ (by omega), sI_same, upd_same, iI_sub]
          congr 1
          omega
        refine go_aload_n dX9_readClause_106 rfl ?_
        refine go_ldcS (i := 1) (by decide) rfl dX9_readClause_107 ?_
        refine go_gets (j := 4) (by decide) rfl dX9_readClause_109 ?_
        refine go_gets (j := 5) (by decide) rfl dX9_readClause_112 ?_
        refine go_aload_n dX9_readClause_115 rfl ?_
        refine go_getR fX9_27 dX9_readClause_116 rfl (hR _ _ _ rfl) ?_
        refine go_aload_n dX9_readClause_119 rfl ?_
        refine go_getI fX9_35 dX9_readClause_120 rfl ?_
        refine go_iconst (v := iI 1) dX9_readClause_123 (by decide) ?_
        refine go_isub dX9_readClause_124 ?_
        refine go_aald dX9_readClause_125 rfl (by decide) (by rw [e7]; exact vp_iI (by omega)) (by rw [e7, cl_n _ (by omega)]; exact hR _ _ _ (r25 s.2.1 (by omega)).1) ?_
        refine go_callS (as := [_, _, _, _, _]) wX9_78 dX9_readClause_126 rfl rfl (Nat.le_of_ble_eq_true rfl) (ct_X9_readItems (κ := 1) (rw := 26 + s.2.1) (row0 := unK 1) (by decide) ht hR (TC_sI hT (by decide) (by decide)) (r25 s.2.1 (by omega)).2.1 (by omega) (by omega) hp1 (fun j hj => ?_) (fun q r hq => ?_) (fun q row r hq hle hc hr => ?_))
        · rw [hr0 j hj]; exact kv_un (κ := 1) (by decide) hj
        · refine go_iret rfl rfl dX9_readClause_129 ?_
          obtain ⟨b, row, e1, e2⟩ := hq
          exact hK1 _ _ ((Fr.rf.sI (by decide) (by decide)).sI (by omega) (by omega)) ⟨b, _, clS_p h59 (by omega) e1, e2⟩
        · refine go_iret rfl rfl dX9_readClause_129 ?_
          refine hK2 _ _ _ ((Fr.rf.sI (by decide) (by decide)).sI (by omega) (by omega)) (clS_p h59 (by omega) hq) hle hc ⟨?_, ?_, ?_, fun j hj => ?_, fun i j hi hj => ?_, fun i j hi hj => ?_⟩ ⟨hp.1, by show s.2.1 + 1 ≤ 7; omega, hp.2.2.1, hp.2.2.2⟩
          · rw [sI_ne _ _ _ _ (by omega), sI_same, upd_ne _ _ _ _ (by decide)]; exact hs.1
          · rw [sI_ne _ _ _ _ (by omega), sI_same, upd_same]
          · rw [sI_ne _ _ _ _ (by omega), sI_same, upd_ne _ _ _ _ (by decide)]; exact hs.2.2.1
          · rw [sI_ne _ _ _ _ (by omega), sI_ne _ _ _ _ (by decide)]; exact hs.2.2.2.1 j hj
          · dsimp only at hi ⊢
            by_cases e : i = s.2.1
            · subst e; rw [sI_same, if_pos rfl]; exact hr j hj
            · rw [sI_ne _ _ _ _ (by omega), sI_ne _ _ _ _ (by omega), if_neg e]; exact hs.2.2.2.2.1 i j (by omega) hj
          · rw [sI_ne _ _ _ _ (by omega), sI_ne _ _ _ _ (by omega)]; exact hs.2.2.2.2.2 i j hi hj
  · rw [iI_eq (by omega)] at h8
    refine go_aload_n dX9_readClause_11 rfl ?_
    refine go_getI fX9_51 dX9_readClause_12 rfl ?_
    refine go_iconst (v := iI 1) dX9_readClause_15 (by decide) ?_
    refine go_icmp_ge (tgt := 56) dX9_readClause_16 (by decide) (fun h16 => ?_) (fun h16 => ?_)
    · rw [atc_ne _ _ _ (by decide), hs.1, iI_le (by omega)] at h16
      refine go_iload_n dX9_readClause_56 rfl ?_
      refine go_bipush (v := iI 112) dX9_readClause_57 (by decide) ?_
      refine go_icmp_ne (tgt := 130) dX9_readClause_59 (by decide) (fun h59 => ?_) (fun h59 => ?_)
      · rw [iI_eq (by omega)] at h59
        refine go_iload_n dX9_readClause_130 rfl ?_
        refine go_bipush (v := iI 105) dX9_readClause_131 (by decide) ?_
        refine go_icmp_ne (tgt := 204) dX9_readClause_133 (by decide) (fun h133 => ?_) (fun h133 => ?_)
        · rw [iI_eq (by omega)] at h133
          refine go_iconst (v := iI 0) dX9_readClause_204 (by decide) ?_
          refine go_iret rfl rfl dX9_readClause_205 ?_
          exact hK1 _ _ Fr.rf ⟨false, s, clS_0 (by omega) (by omega) (by omega), fun q => by cases q⟩
        · rw [iI_eq (by omega)] at h133
          refine go_aload_n dX9_readClause_136 rfl ?_
          refine go_getI fX9_39 dX9_readClause_137 rfl ?_
          refine go_bipush (v := iI 9) dX9_readClause_140 (by decide) ?_
          refine go_icmp_ge (tgt := 204) dX9_readClause_142 (by decide) (fun h142 => ?_) (fun h142 => ?_)
          · rw [atc_ne _ _ _ (by decide), hs.2.2.1, iI_le (by omega)] at h142
            refine go_iconst (v := iI 0) dX9_readClause_204 (by decide) ?_
            refine go_iret rfl rfl dX9_readClause_205 ?_
            exact hK1 _ _ Fr.rf ⟨false, s, clS_0 (by omega) (by omega) (by omega), fun q => by cases q⟩
          · rw [atc_ne _ _ _ (by decide), hs.2.2.1, iI_le (by omega)] at h142
            refine go_aload_n dX9_readClause_145 rfl ?_
            refine go_dup dX9_readClause_146 rfl ?_
            refine go_getI fX9_46 dX9_readClause_147 rfl ?_
            refine go_iconst (v := iI 1) dX9_readClause_150 (by decide) ?_
            refine go_iadd dX9_readClause_151 ?_
            refine go_putI fX9_46 rfl dX9_readClause_152 rfl rfl rfl ?_
            rw [atc_inc]
            have hp1 : sk t a + 1 ≤ t.length := by
              rcases Nat.lt_or_ge (sk t a) t.length with q | q
              · exact q
              · have := ch_out q; omega
            refine go_gets (j := 6) (by decide) rfl dX9_readClause_155 ?_
            refine go_aload_n dX9_readClause_158 rfl ?_
            refine go_getR fX9_32 dX9_readClause_159 rfl (hR _ _ _ rfl) ?_
            refine go_aload_n dX9_readClause_162 rfl ?_
            refine go_getI fX9_39 dX9_readClause_163 rfl ?_
            refine go_aald dX9_readClause_166 rfl (by decide) (by rw [atc_ne _ _ _ (by decide), hs.2.2.1]; exact vp_iI (by omega)) (by rw [atc_ne _ _ _ (by decide), hs.2.2.1, cl_n _ (by omega)]; exact hR _ _ _ (r33 s.2.2.1 (by omega)).1) ?_
            refine go_callS (as := [_, _]) wX9_42 dX9_readClause_167 rfl rfl (Nat.le_of_ble_eq_true rfl) (ct_X9_copyRow_t (j := 6) (n := 5) (by decide) (r33 s.2.2.1 (by omega)).2.1 rfl (by omega) (fun r0 hr0 => ?_))
            rw [atc_sI (by omega)]
            refine go_aload_n dX9_readClause_170 rfl ?_
            refine go_dup dX9_readClause_171 rfl ?_
            refine go_getI fX9_39 dX9_readClause_172 rfl ?_
            refine go_iconst (v := iI 1) dX9_readClause_175 (by decide) ?_
            refine go_iadd dX9_readClause_176 ?_
            refine go_putI fX9_39 rfl dX9_readClause_177 rfl rfl rfl ?_
            rw [atc_fd (by decide), sI_fd (by omega)]
            have e9 : (sI τ (34 + s.2.2.1) r0).1 23 5 = iI s.2.2.1 := by rw [sI_ne _ _ _ _ (by omega)]; exact hs.2.2.1
            have e8 : (atc (sI τ (34 + s.2.2.1) r0) (sk t a + 1)).1 23 5 = iI s.2.2.1 := by rw [atc_ne _ _ _ (by decide)]; exact e9
            rw [e8, iI_add, show ((s.2.2.1 : Int) + 1) = ((s.2.2.1 + 1 : Nat) : Int) by omega]
            have e7 : ∀ r : Nat → Int32, (atc (sI (sI τ 23 (upd (τ.1 23) 5 (iI ((s.2.2.1 + 1 : Nat) : Int)))) (34 + s.2.2.1) r) (sk t a + 1)).1 23 5 - iI 1 = iI s.2.2.1 := by
              intro r
              rw [atc_ne _ _ _ (by decide), sI_ne _ _ _ _ (by omega), sI_same, upd_same, iI_sub]
              congr 1
              omega
            refine go_aload_n dX9_readClause_180 rfl ?_
            refine go_ldcS (i := 2) (by decide) rfl dX9_readClause_181 ?_
            refine go_gets (j := 7) (by decide) rfl dX9_readClause_183 ?_
            refine go_gets (j := 8) (by decide) rfl dX9_readClause_186 ?_
            refine go_aload_n dX9_readClause_189 rfl ?_
            refine go_getR fX9_32 dX9_readClause_190 rfl (hR _ _ _ rfl) ?_
            refine go_aload_n dX9_readClause_193 rfl ?_
            refine go_getI fX9_39 dX9_readClause_194 rfl ?_
            refine go_iconst (v := iI 1) dX9_readClause_197 (by decide) ?_
            refine go_isub dX9_readClause_198 ?_
            refine go_aald dX9_readClause_199 rfl (by decide) (by rw [e7]; exact vp_iI (by omega)) (by rw [e7, cl_n _ (by omega)]; exact hR _ _ _ (r33 s.2.2.1 (by omega)).1) ?_
            refine go_callS (as := [_, _, _, _, _]) wX9_78 dX9_readClause_200 rfl rfl (Nat.le_of_ble_eq_true rfl) (ct_X9_readItems (κ := 2) (rw := 34 + s.2.2.1) (row0 := unK 2) (by decide) ht hR (TC_sI hT (by decide) (by decide)) (r33 s.2.2.1 (by omega)).2.1 (by omega) (by omega) hp1 (fun j hj => ?_) (fun q r hq => ?_) (fun q row r hq hle hc hr => ?_))
            · rw [hr0 j hj]; exact kv_un (κ := 2) (by decide) hj
            · refine go_iret rfl rfl dX9_readClause_203 ?_
              obtain ⟨b, row, e1, e2⟩ := hq
              exact hK1 _ _ ((Fr.rf.sI (by decide) (by decide)).sI (by omega) (by omega)) ⟨b, _, clS_i h133 (by omega) e1, e2⟩
            · refine go_iret rfl rfl dX9_readClause_203 ?_
              refine hK2 _ _ _ ((Fr.rf.sI (by decide) (by decide)).sI (by omega) (by omega)) (clS_i h133 (by omega) hq) hle hc ⟨?_, ?_, ?_, fun j hj => ?_, fun i j hi hj => ?_, fun i j hi hj => ?_⟩ ⟨hp.1, hp.2.1, by show s.2.2.1 + 1 ≤ 9; omega, hp.2.2.2⟩
              · rw [sI_ne _ _ _ _ (by omega), sI_same, upd_ne _ _ _ _ (by decide)]; exact hs.1
              · rw [sI_ne _ _ _ _ (by omega), sI_same, upd_ne _ _ _ _ (by decide)]; exact hs.2.1
              · rw [sI_ne _ _ _ _ (by omega), sI_same, upd_same]
              · rw [sI_ne _ _ _ _ (by omega), sI_ne _ _ _ _ (by decide)]; exact hs.2.2.2.1 j hj
              · dsimp only at hi ⊢
                rw [sI_ne _ _ _ _ (by omega), sI_ne _ _ _ _ (by omega)]; exact hs.2.2.2.2.1 i j hi hj
              · dsimp only at hi ⊢
                by_cases e : i = s.2.2.1
                · subst e; rw [sI_same, if_pos rfl]; exact hr j hj
                · rw [sI_ne _ _ _ _ (by omega), sI_ne _ _ _ _ (by omega), if_neg e]; exact hs.2.2.2.2.2 i j (by omega) hj
      · rw [iI_eq (by omega)] at h59
        refine go_aload_n dX9_readClause_62 rfl ?_
        refine go_getI fX9_35 dX9_readClause_63 rfl ?_
        refine go_bipush (v := iI 7) dX9_readClause_66 (by decide) ?_
        refine go_icmp_ge (tgt := 130) dX9_readClause_68 (by decide) (fun h68 => ?_) (fun h68 => ?_)
        · rw [atc_ne _ _ _ (by decide), hs.2.1, iI_le (by omega)] at h68
          refine go_iload_n dX9_readClause_130 rfl ?_
          refine go_bipush (v := iI 105) dX9_readClause_131 (by decide) ?_
          refine go_icmp_ne (tgt := 204) dX9_readClause_133 (by decide) (fun h133 => ?_) (fun h133 => ?_)
          · rw [iI_eq (by omega)] at h133
            refine go_iconst (v := iI 0) dX9_readClause_204 (by decide) ?_
            refine go_iret rfl rfl dX9_readClause_205 ?_
            exact hK1 _ _ Fr.rf ⟨false, s, clS_0 (by omega) (by omega) (by omega), fun q => by cases q⟩
          · rw [iI_eq (by omega)] at h133
            refine go_aload_n dX9_readClause_136 rfl ?_
            refine go_getI fX9_39 dX9_readClause_137 rfl ?_
            refine go_bipush (v := iI 9) dX9_readClause_140 (by decide) ?_
            refine go_icmp_ge (tgt := 204) dX9_readClause_142 (by decide) (fun h142 => ?_) (fun h142 => ?_)
            · rw [atc_ne _ _ _ (by decide), hs.2.2.1, iI_le (by omega)] at h142
              refine go_iconst (v := iI 0) dX9_readClause_204 (by decide) ?_
              refine go_iret rfl rfl dX9_readClause_205 ?_
              exact hK1 _ _ Fr.rf ⟨false, s, clS_0 (by omega) (by omega) (by omega), fun q => by cases q⟩
            · rw [atc_ne _ _ _ (by decide), hs.2.2.1, iI_le (by omega)] at h142
              refine go_aload_n dX9_readClause_145 rfl ?_
              refine go_dup dX9_readClause_146 rfl ?_
              refine go_getI fX9_46 dX9_readClause_147 rfl ?_
              refine go_iconst (v := iI 1) dX9_readClause_150 (by decide) ?_
              refine go_iadd dX9_readClause_151 ?_
              refine go_putI fX9_46 rfl dX9_readClause_152 rfl rfl rfl ?_
              rw [atc_inc]
              have hp1 : sk t a + 1 ≤ t.length := by
                rcases Nat.lt_or_ge (sk t a) t.length with q | q
                · exact q
                · have := ch_out q; omega
              refine go_gets (j := 6) (by decide) rfl dX9_readClause_155 ?_
              refine go_aload_n dX9_readClause_158 rfl ?_
              refine go_getR fX9_32 dX9_readClause_159 rfl (hR _ _ _ rfl) ?_
              refine go_aload_n dX9_readClause_162 rfl ?_
              refine go_getI fX9_39 dX9_readClause_163 rfl ?_
              refine go_aald dX9_readClause_166 rfl (by decide) (by rw [atc_ne _ _ _ (by decide), hs.2.2.1]; exact vp_iI (by omega)) (by rw [atc_ne _ _ _ (by decide), hs.2.2.1, cl_n _ (by omega)]; exact hR _ _ _ (r33 s.2.2.1 (by omega)).1) ?_
              refine go_callS (as := [_, _]) wX9_42 dX9_readClause_167 rfl rfl (Nat.le_of_ble_eq_true rfl) (ct_X9_copyRow_t (j := 6) (n := 5) (by decide) (r33 s.2.2.1 (by omega)).2.1 rfl (by omega) (fun r0 hr0 => ?_))
              rw [atc_sI (by omega)]
              refine go_aload_n dX9_readClause_170 rfl ?_
              refine go_dup dX9_readClause_171 rfl ?_
              refine go_getI fX9_39 dX9_readClause_172 rfl ?_
              refine go_iconst (v := iI 1) dX9_readClause_175 (by decide) ?_
              refine go_iadd dX9_readClause_176 ?_
              refine go_putI fX9_39 rfl dX9_readClause_177 rfl rfl rfl ?_
              rw [atc_fd (by decide), sI_fd (by omega)]
              have e9 : (sI τ (34 + s.2.2.1) r0).1 23 5 = iI s.2.2.1 := by rw [sI_ne _ _ _ _ (by omega)]; exact hs.2.2.1
              have e8 : (atc (sI τ (34 + s.2.2.1) r0) (sk t a + 1)).1 23 5 = iI s.2.2.1 := by rw [atc_ne _ _ _ (by decide)]; exact e9
              rw [e8, iI_add, show ((s.2.2.1 : Int) + 1) = ((s.2.2.1 + 1 : Nat) : Int) by omega]
              have e7 : ∀ r : Nat → Int32, (atc (sI (sI τ 23 (upd (τ.1 23) 5 (iI ((s.2.2.1 + 1 : Nat) : Int)))) (34 + s.2.2.1) r) (sk t a + 1)).1 23 5 - iI 1 = iI s.2.2.1 := by
                intro r
                rw [atc_ne _ _ _ (by decide), sI_ne _ _ _ _ (by omega), sI_same, upd_same, iI_sub]
                congr 1
                omega
              refine go_aload_n dX9_readClause_180 rfl ?_
              refine go_ldcS (i := 2) (by decide) rfl dX9_readClause_181 ?_
              refine go_gets (j := 7) (by decide) rfl dX9_readClause_183 ?_
              refine go_gets (j := 8) (by decide) rfl dX9_readClause_186 ?_
              refine go_aload_n dX9_readClause_189 rfl ?_
              refine go_getR fX9_32 dX9_readClause_190 rfl (hR _ _ _ rfl) ?_
              refine go_aload_n dX9_readClause_193 rfl ?_
              refine go_getI fX9_39 dX9_readClause_194 rfl ?_
              refine go_iconst (v := iI 1) dX9_readClause_197 (by decide) ?_
              refine go_isub dX9_readClause_198 ?_
              refine go_aald dX9_readClause_199 rfl (by decide) (by rw [e7]; exact vp_iI (by omega)) (by rw [e7, cl_n _ (by omega)]; exact hR _ _ _ (r33 s.2.2.1 (by omega)).1) ?_
              refine go_callS (as := [_, _, _, _, _]) wX9_78 dX9_readClause_200 rfl rfl (Nat.le_of_ble_eq_true rfl) (ct_X9_readItems (κ := 2) (rw := 34 + s.2.2.1) (row0 := unK 2) (by decide) ht hR (TC_sI hT (by decide) (by decide)) (r33 s.2.2.1 (by omega)).2.1 (by omega) (by omega) hp1 (fun j hj => ?_) (fun q r hq => ?_) (fun q row r hq hle hc hr => ?_))
              · rw [hr0 j hj]; exact kv_un (κ := 2) (by decide) hj
              · refine go_iret rfl rfl dX9_readClause_203 ?_
                obtain ⟨b, row, e1, e2⟩ := hq
                exact hK1 _ _ ((Fr.rf.sI (by decide) (by decide)).sI (by omega) (by omega)) ⟨b, _, clS_i h133 (by omega) e1, e2⟩
              · refine go_iret rfl rfl dX9_readClause_203 ?_
                refine hK2 _ _ _ ((Fr.rf.sI (by decide) (by decide)).sI (by omega) (by omega)) (clS_i h133 (by omega) hq) hle hc ⟨?_, ?_, ?_, fun j hj => ?_, fun i j hi hj => ?_, fun i j hi hj => ?_⟩ ⟨hp.1, hp.2.1, by show s.2.2.1 + 1 ≤ 9; omega, hp.2.2.2⟩
                · rw [sI_ne _ _ _ _ (by omega), sI_same, upd_ne _ _ _ _ (by decide)]; exact hs.1
                · rw [sI_ne _ _ _ _ (by omega), sI_same, upd_ne _ _ _ _ (by decide)]; exact hs.2.1
                · rw [sI_ne _ _ _ _ (by omega), sI_same, upd_same]
                · rw [sI_ne _ _ _ _ (by omega), sI_ne _ _ _ _ (by decide)]; exact hs.2.2.2.1 j hj
                · dsimp only at hi ⊢
                  rw [sI_ne _ _ _ _ (by omega), sI_ne _ _ _ _ (by omega)]; exact hs.2.2.2.2.1 i j hi hj
                · dsimp only at hi ⊢
                  by_cases e : i = s.2.2.1
                  · subst e; rw [sI_same, if_pos rfl]; exact hr j hj
                  · rw [sI_ne _ _ _ _ (by omega), sI_ne _ _ _ _ (by omega), if_neg e]; exact hs.2.2.2.2.2 i j (by omega) hj
        · rw [atc_ne _ _ _ (by decide), hs.2.1, iI_le (by omega)] at h68
          refine go_aload_n dX9_readClause_71 rfl ?_
          refine go_dup dX9_readClause_72 rfl ?_
          refine go_getI fX9_46 dX9_readClause_73 rfl ?_
          refine go_iconst (v := iI 1) dX9_readClause_76 (by decide) ?_
          refine go_iadd dX9_readClause_77 ?_
          refine go_putI fX9_46 rfl dX9_readClause_78 rfl rfl rfl ?_
          rw [atc_inc]
          have hp1 : sk t a + 1 ≤ t.length := by
            rcases Nat.lt_or_ge (sk t a) t.length with q | q
            · exact q
            · have := ch_out q; omega
          refine go_gets (j := 3) (by decide) rfl dX9_readClause_81 ?_
          refine go_aload_n dX9_readClause_84 rfl ?_
          refine go_getR fX9_27 dX9_readClause_85 rfl (hR _ _ _ rfl) ?_
          refine go_aload_n dX9_readClause_88 rfl ?_
          refine go_getI fX9_35 dX9_readClause_89 rfl ?_
          refine go_aald dX9_readClause_92 rfl (by decide) (by rw [atc_ne _ _ _ (by decide), hs.2.1]; exact vp_iI (by omega)) (by rw [atc_ne _ _ _ (by decide), hs.2.1, cl_n _ (by omega)]; exact hR _ _ _ (r25 s.2.1 (by omega)).1) ?_
          refine go_callS (as := [_, _]) wX9_42 dX9_readClause_93 rfl rfl (Nat.le_of_ble_eq_true rfl) (ct_X9_copyRow_t (j := 3) (n := 9) (by decide) (r25 s.2.1 (by omega)).2.1 rfl (by omega) (fun r0 hr0 => ?_))
          rw [atc_sI (by omega)]
          refine go_aload_n dX9_readClause_96 rfl ?_
          refine go_dup dX9_readClause_97 rfl ?_
          refine go_getI fX9_35 dX9_readClause_98 rfl ?_
          refine go_iconst (v := iI 1) dX9_readClause_101 (by decide) ?_
          refine go_iadd dX9_readClause_102 ?_
          refine go_putI fX9_35 rfl dX9_readClause_103 rfl rfl rfl ?_
          rw [atc_fd (by decide), sI_fd (by omega)]
          have e9 : (sI τ (26 + s.2.1) r0).1 23 4 = iI s.2.1 := by rw [sI_ne _ _ _ _ (by omega)]; exact hs.2.1
          have e8 : (atc (sI τ (26 + s.2.1) r0) (sk t a + 1)).1 23 4 = iI s.2.1 := by rw [atc_ne _ _ _ (by decide)]; exact e9
          rw [e8, iI_add, show ((s.2.1 : Int) + 1) = ((s.2.1 + 1 : Nat) : Int) by omega]
          have e7 : ∀ r : Nat → Int32, (atc (sI (sI τ 23 (upd (τ.1 23) 4 (iI ((s.2.1 + 1 : Nat) : Int)))) (26 + s.2.1) r) (sk t a + 1)).1 23 4 - iI 1 = iI s.2.1 := by
            intro r
            rw [atc_ne _ _ _ (by decide), sI_ne _ _ _ _ (by omega), sI_same, upd_same, iI_sub]
            congr 1
            omega
          refine go_aload_n dX9_readClause_106 rfl ?_
          refine go_ldcS (i := 1) (by decide) rfl dX9_readClause_107 ?_
          refine go_gets (j := 4) (by decide) rfl dX9_readClause_109 ?_
          refine go_gets (j := 5) (by decide) rfl dX9_readClause_112 ?_
          refine go_aload_n dX9_readClause_115 rfl ?_
          refine go_getR fX9_27 dX9_readClause_116 rfl (hR _ _ _ rfl) ?_
          refine go_aload_n dX9_readClause_119 rfl ?_
          refine go_getI fX9_35 dX9_readClause_120 rfl ?_
          refine go_iconst (v := iI 1) dX9_readClause_123 (by decide) ?_
          refine go_isub dX9_readClause_124 ?_
          refine go_aald dX9_readClause_125 rfl (by decide) (by rw [e7]; exact vp_iI (by omega)) (by rw [e7, cl_n _ (by omega)]; exact hR _ _ _ (r25 s.2.1 (by omega)).1) ?_
          refine go_callS (as := [_, _, _, _, _]) wX9_78 dX9_readClause_126 rfl rfl (Nat.le_of_ble_eq_true rfl) (ct_X9_readItems (κ := 1) (rw := 26 + s.2.1) (row0 := unK 1) (by decide) ht hR (TC_sI hT (by decide) (by decide)) (r25 s.2.1 (by omega)).2.1 (by omega) (by omega) hp1 (fun j hj => ?_) (fun q r hq => ?_) (fun q row r hq hle hc hr => ?_))
          · rw [hr0 j hj]; exact kv_un (κ := 1) (by decide) hj
          · refine go_iret rfl rfl dX9_readClause_129 ?_
            obtain ⟨b, row, e1, e2⟩ := hq
            exact hK1 _ _ ((Fr.rf.sI (by decide) (by decide)).sI (by omega) (by omega)) ⟨b, _, clS_p h59 (by omega) e1, e2⟩
          · refine go_iret rfl rfl dX9_readClause_129 ?_
            refine hK2 _ _ _ ((Fr.rf.sI (by decide) (by decide)).sI (by omega) (by omega)) (clS_p h59 (by omega) hq) hle hc ⟨?_, ?_, ?_, fun j hj => ?_, fun i j hi hj => ?_, fun i j hi hj => ?_⟩ ⟨hp.1, by show s.2.1 + 1 ≤ 7; omega, hp.2.2.1, hp.2.2.2⟩
            · rw [sI_ne _ _ _ _ (by omega), sI_same, upd_ne _ _ _ _ (by decide)]; exact hs.1
            · rw [sI_ne _ _ _ _ (by omega), sI_same, upd_same]
            · rw [sI_ne _ _ _ _ (by omega), sI_same, upd_ne _ _ _ _ (by decide)]; exact hs.2.2.1
            · rw [sI_ne _ _ _ _ (by omega), sI_ne _ _ _ _ (by decide)]; exact hs.2.2.2.1 j hj
            · dsimp only at hi ⊢
              by_cases e : i = s.2.1
              · subst e; rw [sI_same, if_pos rfl]; exact hr j hj
              · rw [sI_ne _ _ _ _ (by omega), sI_ne _ _ _ _ (by omega), if_neg e]; exact hs.2.2.2.2.1 i j (by omega) hj
            · rw [sI_ne _ _ _ _ (by omega), sI_ne _ _ _ _ (by omega)]; exact hs.2.2.2.2.2 i j hi hj
    · rw [atc_ne _ _ _ (by decide), hs.1, iI_le (by omega)] at h16
      refine go_aload_n dX9_readClause_19 rfl ?_
      refine go_dup dX9_readClause_20 rfl ?_
      refine go_getI fX9_46 dX9_readClause_21 rfl ?_
      refine go_iconst (v := iI 1) dX9_readClause_24 (by decide) ?_
      refine go_iadd dX9_readClause_25 ?_
      refine go_putI fX9_46 rfl dX9_readClause_26 rfl rfl rfl ?_
      rw [atc_inc]
      have hp1 : sk t a + 1 ≤ t.length := by
        rcases Nat.lt_or_ge (sk t a) t.length with q | q
        · exact q
        · have := ch_out q; omega
      refine go_aload_n dX9_readClause_29 rfl ?_
      refine go_dup dX9_readClause_30 rfl ?_
      refine go_getI fX9_51 dX9_readClause_31 rfl ?_
      refine go_iconst (v := iI 1) dX9_readClause_34 (by decide) ?_
      refine go_iadd dX9_readClause_35 ?_
      refine go_putI fX9_51 rfl dX9_readClause_36 rfl rfl rfl ?_
      simp only [atc_ne _ _ _ (show (23 : Nat) ≠ 1 by decide), hs.1, iI_add]
      rw [← atc_ne τ (sk t a + 1) 23 (by decide), atc_fd (by decide), show ((s.1 : Int) + 1) = ((s.1 + 1 : Nat) : Int) by omega]
      rw [← sI_self (sI τ 23 (upd (τ.1 23) 3 (iI ((s.1 + 1 : Nat) : Int)))) 24]
      refine go_aload_n dX9_readClause_39 rfl ?_
      refine go_ldcS (i := 0) (by decide) rfl dX9_readClause_40 ?_
      refine go_gets (j := 1) (by decide) rfl dX9_readClause_42 ?_
      refine go_gets (j := 2) (by decide) rfl dX9_readClause_45 ?_
      refine go_aload_n dX9_readClause_48 rfl ?_
      refine go_getR fX9_17 dX9_readClause_49 rfl (hR _ _ _ rfl) ?_
      refine go_callS (as := [_, _, _, _, _]) wX9_78 dX9_readClause_52 rfl rfl (Nat.le_of_ble_eq_true rfl) (ct_X9_readItems (κ := 0) (rw := 24) (row0 := unK 0) (by decide) ht hR hT rfl (by decide) (by decide) hp1 (fun j hj => ?_) (fun q r hq => ?_) (fun q row r hq hle hc hr => ?_))
      · show τ.1 24 j = _
        rw [hs.2.2.2.1 j hj, hp.2.2.2 (by omega)]
      · refine go_iret rfl rfl dX9_readClause_55 ?_
        obtain ⟨b, row, e1, e2⟩ := hq
        exact hK1 _ _ ((Fr.rf.sI (by decide) (by decide)).sI (by decide) (by decide)) ⟨b, _, clS_s h8 (by omega) e1, e2⟩
      · refine go_iret rfl rfl dX9_readClause_55 ?_
        refine hK2 _ _ _ ((Fr.rf.sI (by decide) (by decide)).sI (by decide) (by decide)) (clS_s h8 (by omega) hq) hle hc ⟨?_, ?_, ?_, hr, fun i j hi hj => ?_, fun i j hi hj => ?_⟩ ⟨by show s.1 + 1 ≤ 1; omega, hp.2.1, hp.2.2.1, fun q => absurd q (Nat.succ_ne_zero _)⟩
        · rw [sI_ne _ _ _ _ (by decide), sI_same, upd_same]
        · rw [sI_ne _ _ _ _ (by decide), sI_same, upd_ne _ _ _ _ (by decide)]; exact hs.2.1
        · rw [sI_ne _ _ _ _ (by decide), sI_same, upd_ne _ _ _ _ (by decide)]; exact hs.2.2.1
        · rw [sI_ne _ _ _ _ (by omega), sI_ne _ _ _ _ (by omega)]; exact hs.2.2.2.2.1 i j hi hj
        · rw [sI_ne _ _ _ _ (by omega), sI_ne _ _ _ _ (by omega)]; exact hs.2.2.2.2.2 i j hi hj
