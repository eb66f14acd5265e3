/-! the model's day, whole -/
def enF (s : PS) (w : WT) (k : Nat) : Int := match k with
  | 0 => suF (wa w) (nP s)
  | 1 => (barF s w : Int)
  | _ => suF (ca w) (nP s)
theorem mn_cm (a b : Int) : mn a b = mn b a := by unfold mn; split <;> split <;> omega
theorem WR_wea {r : Nat → Int32} {w : WT} {p : Nat} {O V : Int} (hp : p < 7) (hW : WR r w) : WR (upd (upd r 22 (iI O)) (3 * p) (iI V)) (setF (wa w) p V, ca w, pk w, opn w, O, dy w) := by
  refine ⟨fun i hi => ⟨?_, ?_, ?_⟩, ?_, ?_, ?_⟩
  · show _ = iI (setF (wa w) p V i)
    by_cases h : i = p
    · subst h; rw [upd_same, setF_a]
    · rw [upd_ne _ _ _ _ (by omega), upd_ne _ _ _ _ (by omega), setF_n h]; exact (hW.1 i hi).1
  · rw [upd_ne _ _ _ _ (by omega), upd_ne _ _ _ _ (by omega)]; exact (hW.1 i hi).2.1
  · rw [upd_ne _ _ _ _ (by omega), upd_ne _ _ _ _ (by omega)]; exact (hW.1 i hi).2.2
  · rw [upd_ne _ _ _ _ (by omega), upd_ne _ _ _ _ (by omega)]; exact hW.2.1
  · rw [upd_ne _ _ _ _ (by omega), upd_same]; rfl
  · rw [upd_ne _ _ _ _ (by omega), upd_ne _ _ _ _ (by omega)]; exact hW.2.2.2
theorem WR_day {r : Nat → Int32} {w : WT} (hW : WR r w) : WR (upd r 23 (iI ((dy w : Int) + 1))) (nxtD w) := by
  refine ⟨fun i hi => ⟨?_, ?_, ?_⟩, ?_, ?_, ?_⟩
  · rw [upd_ne _ _ _ _ (by omega)]; exact (hW.1 i hi).1
  · rw [upd_ne _ _ _ _ (by omega)]; exact (hW.1 i hi).2.1
  · rw [upd_ne _ _ _ _ (by omega)]; exact (hW.1 i hi).2.2
  · rw [upd_ne _ _ _ _ (by omega)]; exact hW.2.1
  · rw [upd_ne _ _ _ _ (by omega)]; exact hW.2.2.1
  · rw [upd_same]; rfl
theorem WR_lo {r r' : Nat → Int32} {w : WT} (hW : WR r w) (h : ∀ j, j < 24 → r' j = r j) : WR r' w := by
  refine ⟨fun i hi => ⟨?_, ?_, ?_⟩, ?_, ?_, ?_⟩
  · rw [h _ (by omega)]; exact (hW.1 i hi).1
  · rw [h _ (by omega)]; exact (hW.1 i hi).2.1
  · rw [h _ (by omega)]; exact (hW.1 i hi).2.2
  · rw [h _ (by omega)]; exact hW.2.1
  · rw [h _ (by omega)]; exact hW.2.2.1
  · rw [h _ (by omega)]; exact hW.2.2.2
/-- a row behind a day's entry: n entries, cut by off -/
def lgR (r r' : Nat → Int32) (s : PS) (w : WT) (n off : Nat) : Prop := r' 24 = iI ((n + 1 : Nat) : Int) ∧ (∀ j, j < 3 * n → r' (25 + j) = r (25 + j + off)) ∧ ∀ k, k < 3 → r' (25 + 3 * n + k) = iI (enF s w k)
def shR (r : Nat → Int32) (k : Nat) : Nat → Int32 := fun j => if 25 ≤ j ∧ j < 24 + k then r (j + 3) else r j
theorem shR_s (r : Nat → Int32) (k : Nat) (h : 1 ≤ k) : upd (shR r k) (24 + k) (shR r k (24 + k + 3)) = shR r (k + 1) := by
  funext j
  by_cases hj : j = 24 + k
  · subst hj; rw [upd_same]; unfold shR; rw [if_neg (by omega), if_pos (by omega)]
  · rw [upd_ne _ _ _ _ hj]; unfold shR
    by_cases c : 25 ≤ j ∧ j < 24 + k
    · rw [if_pos c, if_pos (by omega)]
    · rw [if_neg c, if_neg (by omega)]
theorem shR_1 (r : Nat → Int32) : shR r 1 = r := by funext j; unfold shR; rw [if_neg (by omega)]
theorem g173 {l : Launch} {D : va_G} {cA ad : Nat → Nat} {d : Nat} {σ : AS} {K : Option Value → AS → Prop} {s : PS} {w : WT} {Ls : LwT} {h : Int} {c n : Nat} {rain : Int} {r : Nat → Int32} {v3 v4 : Value} (hS : TwK s) (hc : sh[c]? = some (1, 205)) (hcx : c = 124 ∨ c = 125) (hM : MS s Ls h (sI σ c r)) (hW : WR r w) (hw : WK s w) (hn : r 24 = iI n) (hn9 : n ≤ 59) (hK : ∀ r2, WR r2 w → lgR r r2 s w n 0 → K none (sI σ c r2)) : Go l D cA ad (d + 2) mX12_goDay 173 [.ref 111, .ref c, .int (iI rain), v3, v4] [] (sI σ c r) K := by
  have hR := hM.1
  have hT := hM.2.1
  have hM0 : ∀ q, MS s Ls h (sI σ c q) := fun q => by have := hM.si (r := q) hcx; rwa [sI_sI] at this
  refine go_bipush (v := iI 25) dX12_goDay_173 (by decide) ?_
  refine go_iconst (v := iI 3) dX12_goDay_175 (by decide) ?_
  refine go_aload_n dX12_goDay_176 rfl ?_
  refine go_bipush (v := iI 24) dX12_goDay_177 (by decide) ?_
  refine go_iald dX12_goDay_179 hc (vp_iI (by decide)) ?_
  rw [show (iI 24).toNatClampNeg = 24 by decide, sI_same, hn]
  refine go_imul dX12_goDay_180 ?_
  refine go_iadd dX12_goDay_181 ?_
  rw [iI_mul, iI_add, show 25 + 3 * (n : Int) = ((25 + 3 * n : Nat) : Int) by omega]
  refine go_istore_n dX12_goDay_182 (Nat.le_of_ble_eq_true rfl) rfl ?_
  refine go_aload_n dX12_goDay_183 rfl ?_
  refine go_iload_n dX12_goDay_184 rfl ?_
  refine go_aload_n dX12_goDay_185 rfl ?_
  refine go_aload_n dX12_goDay_186 rfl ?_
  refine go_iconst (v := iI 0) dX12_goDay_187 (by decide) ?_
  refine go_callV (as := [_, _]) wX12_357 dX12_goDay_188 rfl rfl rfl rfl (Nat.le_of_ble_eq_true rfl) (ct_X12_sumIn (k := 0) (f := wa w) hR hT hS hc (by decide) (fun i hi => by rw [sI_same]; exact (hW.1 i hi).1) ?_)
  refine go_iast dX12_goDay_191 hc (vp_iI (by omega)) ?_
  rw [cl_n _ (by omega), sI_same, sI_sI]
  simp only [List.set]
  refine go_aload_n dX12_goDay_192 rfl ?_
  refine go_iload_n dX12_goDay_193 rfl ?_
  refine go_iconst (v := iI 1) dX12_goDay_194 (by decide) ?_
  refine go_iadd dX12_goDay_195 ?_
  refine go_aload_n dX12_goDay_196 rfl ?_
  refine go_aload_n dX12_goDay_197 rfl ?_
  refine go_callV (as := [_]) wX12_360 dX12_goDay_198 rfl rfl rfl rfl (Nat.le_of_ble_eq_true rfl) (ct_X12_bareIn (hM0 _).1 (hM0 _).2.1 hS hc (by rw [WM_R, sI_same]; exact WR_hi hW (by omega)) hw ?_)
  refine go_iast dX12_goDay_201 hc (by rw [iI_add]; exact vp_iI (by omega)) ?_
  rw [iI_add, show ((25 + 3 * n : Nat) : Int) + 1 = ((25 + 3 * n + 1 : Nat) : Int) by omega, cl_n _ (by omega), sI_same, sI_sI]
  refine go_aload_n dX12_goDay_202 rfl ?_
  refine go_iload_n dX12_goDay_203 rfl ?_
  refine go_iconst (v := iI 2) dX12_goDay_204 (by decide) ?_
  refine go_iadd dX12_goDay_205 ?_
  refine go_aload_n dX12_goDay_206 rfl ?_
  refine go_aload_n dX12_goDay_207 rfl ?_
  refine go_iconst (v := iI 1) dX12_goDay_208 (by decide) ?_
  refine go_callV (as := [_, _]) wX12_357 dX12_goDay_209 rfl rfl rfl rfl (Nat.le_of_ble_eq_true rfl) (ct_X12_sumIn (k := 1) (f := ca w) (hM0 _).1 (hM0 _).2.1 hS hc (by decide) (fun i hi => by rw [sI_same]; exact ((WR_hi (WR_hi hW (by omega)) (by omega)).1 i hi).2.1) ?_)
  refine go_iast dX12_goDay_212 hc (by rw [iI_add]; exact vp_iI (by omega)) ?_
  rw [iI_add, show ((25 + 3 * n : Nat) : Int) + 2 = ((25 + 3 * n + 2 : Nat) : Int) by omega, cl_n _ (by omega), sI_same, sI_sI]
  refine go_aload_n dX12_goDay_213 rfl ?_
  refine go_bipush (v := iI 24) dX12_goDay_214 (by decide) ?_
  refine go_dup2 dX12_goDay_216 rfl rfl ?_
  refine go_iald dX12_goDay_217 hc (vp_iI (by decide)) ?_
  rw [show (iI 24).toNatClampNeg = 24 by decide, sI_same, upd_ne _ _ _ _ (by omega), upd_ne _ _ _ _ (by omega), upd_ne _ _ _ _ (by omega), hn]
  refine go_iconst (v := iI 1) dX12_goDay_218 (by decide) ?_
  refine go_iadd dX12_goDay_219 ?_
  rw [iI_add]
  refine go_iast dX12_goDay_220 hc (vp_iI (by decide)) ?_
  rw [show (iI 24).toNatClampNeg = 24 by decide, sI_same, sI_sI]
  refine go_vret rfl dX12_goDay_221 ?_
  refine hK _ (WR_hi (WR_hi (WR_hi (WR_hi hW (by omega)) (by omega)) (by omega)) (by omega)) ⟨upd_same _ _ _, fun j hj => ?_, fun k hk => ?_⟩
  · rw [upd_ne _ _ _ _ (by omega), upd_ne _ _ _ _ (by omega), upd_ne _ _ _ _ (by omega), upd_ne _ _ _ _ (by omega)]; rfl
  · rw [upd_ne _ _ _ _ (by omega)]
    rcases (show k = 0 ∨ k = 1 ∨ k = 2 by omega) with rfl | rfl | rfl
    · rw [upd_ne _ _ _ _ (by omega), upd_ne _ _ _ _ (by omega)]; exact upd_same _ _ _
    · rw [upd_ne _ _ _ _ (by omega)]; exact upd_same _ _ _
    · exact upd_same _ _ _

theorem g138 {l : Launch} {D : va_G} {cA ad : Nat → Nat} {d : Nat} {σ : AS} {K : Option Value → AS → Prop} {c : Nat} {rain : Int} {r : Nat → Int32} {v4 : Value} (hc : sh[c]? = some (1, 205)) (hK : Go l D cA ad d mX12_goDay 165 [.ref 111, .ref c, .int (iI rain), .int (iI 178), v4] [] (sI σ c (shR r 178)) K) : ∀ i : Nat, i ≤ 178 → 1 ≤ i → Go l D cA ad d mX12_goDay 138 [.ref 111, .ref c, .int (iI rain), .int (iI i), v4] [] (sI σ c (shR r i)) K := by
  refine up_loop (P := fun i : Nat => 1 ≤ i → Go l D cA ad d mX12_goDay 138 [.ref 111, .ref c, .int (iI rain), .int (iI i), v4] [] (sI σ c (shR r i)) K) (fun _ => ?_) (fun i hi ih h1 => ?_)
  · refine go_iload_n dX12_goDay_138 rfl ?_
    refine go_sipush (v := iI 177) dX12_goDay_139 (by decide) ?_
    refine go_icmp_gt (tgt := 165) dX12_goDay_142 (by decide) (fun h142 => ?_) (fun h142 => ?_)
    · exact hK
    · exact absurd (by decide) h142
  · refine go_iload_n dX12_goDay_138 rfl ?_
    refine go_sipush (v := iI 177) dX12_goDay_139 (by decide) ?_
    refine go_icmp_gt (tgt := 165) dX12_goDay_142 (by decide) (fun h142 => ?_) (fun h142 => ?_)
    · exfalso
      rw [iI_lt (by omega)] at h142
      omega
    · refine go_aload_n dX12_goDay_145 rfl ?_
      refine go_bipush (v := iI 24) dX12_goDay_146 (by decide) ?_
      refine go_iload_n dX12_goDay_148 rfl ?_
      refine go_iadd dX12_goDay_149 ?_
      refine go_aload_n dX12_goDay_150 rfl ?_
      refine go_bipush (v := iI 24) dX12_goDay_151 (by decide) ?_
      refine go_iload_n dX12_goDay_153 rfl ?_
      refine go_iadd dX12_goDay_154 ?_
      refine go_iconst (v := iI 3) dX12_goDay_155 (by decide) ?_
      refine go_iadd dX12_goDay_156 ?_
      refine go_iald dX12_goDay_157 hc (by rw [iI_add, iI_add]; exact vp_iI (by omega)) ?_
      rw [iI_add, iI_add, iI_cl (by omega), show (24 + (i : Int) + 3).toNat = 24 + i + 3 by omega, sI_same]
      refine go_iast dX12_goDay_158 hc (vp_iI (by omega)) ?_
      rw [iI_cl (by omega), show (24 + (i : Int)).toNat = 24 + i by omega, sI_same, sI_sI, shR_s _ _ (by omega)]
      refine go_iincI dX12_goDay_159 rfl (Nat.le_of_ble_eq_true rfl) rfl ?_
      refine go_goto (tgt := 138) dX12_goDay_162 (by decide) ?_
      simp only [List.set, iI_add]
      exact ih (by omega)

theorem g119 {l : Launch} {D : va_G} {cA ad : Nat → Nat} {d : Nat} {σ : AS} {K : Option Value → AS → Prop} {s : PS} {w : WT} {Ls : LwT} {h : Int} {c n : Nat} {rain : Int} {v3 v4 : Value} (hS : TwK s) (hc : sh[c]? = some (1, 205)) (hcx : c = 124 ∨ c = 125) (hM : MS s Ls h σ) (hW : WM σ c w) (hw2 : WK s (nxtD w)) (hn : σ.1 c 24 = iI n) (hn9 : n ≤ 60) (hK : ∀ r2 n' off, WR r2 (nxtD w) → n' ≤ 59 → (n ≠ 60 ∧ n' = n ∧ off = 0 ∨ n = 60 ∧ n' = 59 ∧ off = 3) → lgR (σ.1 c) r2 s (nxtD w) n' off → K none (sI σ c r2)) : Go l D cA ad (d + 2) mX12_goDay 119 [.ref 111, .ref c, .int (iI rain), v3, v4] [] σ K := by
  refine go_aload_n dX12_goDay_119 rfl ?_
  refine go_bipush (v := iI 23) dX12_goDay_120 (by decide) ?_
  refine go_dup2 dX12_goDay_122 rfl rfl ?_
  refine go_iald dX12_goDay_123 hc (vp_iI (by decide)) ?_
  rw [show (iI 23).toNatClampNeg = 23 by decide, hW.2.2.2]
  refine go_iconst (v := iI 1) dX12_goDay_124 (by decide) ?_
  refine go_iadd dX12_goDay_125 ?_
  rw [iI_add]
  refine go_iast dX12_goDay_126 hc (vp_iI (by decide)) ?_
  rw [show (iI 23).toNatClampNeg = 23 by decide]
  refine go_aload_n dX12_goDay_127 rfl ?_
  refine go_bipush (v := iI 24) dX12_goDay_128 (by decide) ?_
  refine go_iald dX12_goDay_130 hc (vp_iI (by decide)) ?_
  rw [show (iI 24).toNatClampNeg = 24 by decide, sI_same, upd_ne _ _ _ _ (by decide), hn]
  refine go_bipush (v := iI 60) dX12_goDay_131 (by decide) ?_
  refine go_icmp_ne (tgt := 173) dX12_goDay_133 (by decide) (fun h133 => ?_) (fun h133 => ?_)
  · rw [iI_eq (by omega)] at h133
    have hM1 : MS s Ls h (sI σ c (upd (σ.1 c) 23 (iI ((dy w : Int) + 1)))) := hM.si hcx
    exact g173 hS hc hcx hM1 (WR_day hW) hw2 (by rw [upd_ne _ _ _ _ (by decide)]; exact hn) (by omega) (fun r2 h1 h2 => hK r2 n 0 h1 (by omega) (Or.inl ⟨by omega, rfl, rfl⟩) ⟨h2.1, fun j hj => by rw [h2.2.1 j hj, upd_ne _ _ _ _ (by omega)], h2.2.2⟩)
  · rw [iI_eq (by omega)] at h133
    refine go_iconst (v := iI 1) dX12_goDay_136 (by decide) ?_
    refine go_istore_n dX12_goDay_137 (Nat.le_of_ble_eq_true rfl) rfl ?_
    simp only [List.set]
    rw [← shR_1 (upd (σ.1 c) 23 (iI ((dy w : Int) + 1)))]
    refine g138 hc ?_ 1 (by decide) (by decide)
    have e24 : shR (upd (σ.1 c) 23 (iI ((dy w : Int) + 1))) 178 24 = iI 60 := by
      unfold shR
      rw [if_neg (by omega), upd_ne _ _ _ _ (by decide), hn, h133]
    refine go_aload_n dX12_goDay_165 rfl ?_
    refine go_bipush (v := iI 24) dX12_goDay_166 (by decide) ?_
    refine go_dup2 dX12_goDay_168 rfl rfl ?_
    refine go_iald dX12_goDay_169 hc (vp_iI (by decide)) ?_
    rw [show (iI 24).toNatClampNeg = 24 by decide, sI_same, show shR (upd (σ.1 c) 23 (iI ((dy w : Int) + 1))) 178 24 = iI 60 from e24]
    refine go_iconst (v := iI 1) dX12_goDay_170 (by decide) ?_
    refine go_isub dX12_goDay_171 ?_
    rw [iI_sub]
    refine go_iast dX12_goDay_172 hc (vp_iI (by decide)) ?_
    rw [show (iI 24).toNatClampNeg = 24 by decide, sI_same, sI_sI]
    have hM1 : MS s Ls h (sI σ c (upd (shR (upd (σ.1 c) 23 (iI ((dy w : Int) + 1))) 178) 24 (iI (60 - 1)))) := hM.si hcx
    refine g173 (n := 59) hS hc hcx hM1 (WR_lo (WR_day hW) (fun j hj => by rw [upd_ne _ _ _ _ (by omega)]; unfold shR; rw [if_neg (by omega)])) hw2 (upd_same _ _ _) (by decide) (fun r2 h1 h2 => hK r2 59 3 h1 (by decide) (Or.inr ⟨by omega, rfl, rfl⟩) ⟨h2.1, fun j hj => ?_, h2.2.2⟩)
    rw [h2.2.1 j hj, upd_ne _ _ _ _ (by omega)]
    show shR _ 178 (25 + j) = _
    unfold shR
    rw [if_pos (by omega), upd_ne _ _ _ _ (by omega)]

theorem g99 {l : Launch} {D : va_G} {cA ad : Nat → Nat} {d : Nat} {σ : AS} {K : Option Value → AS → Prop} {s : PS} {W1 : WT} {Ls : LwT} {h : Int} {c n0 : Nat} {rain : Int} (hS : TwK s) (hc : sh[c]? = some (1, 205)) (hcx : c = 124 ∨ c = 125) (hn0 : σ.1 c 24 = iI n0) (hn60 : n0 ≤ 60) (hd : dy W1 < 20000) (hK : ∀ τ r2 n' off, FrN c σ τ → MS s Ls h τ → WR r2 (nxtD (W1)) → n' ≤ 59 → (n0 ≠ 60 ∧ n' = n0 ∧ off = 0 ∨ n0 = 60 ∧ n' = 59 ∧ off = 3) → lgR (σ.1 c) r2 s (nxtD (W1)) n' off → K none (sI τ c r2)) : ∀ (n k : Nat) (w : WT) (τ : AS) (v4 : Value), n + k = nP s → MS s Ls h τ → WM τ c w → WK s w → FrN c σ τ → (∀ j, 24 ≤ j → τ.1 c j = σ.1 c j) → lvsF s n k w = W1 → Go l D cA ad (d + 2) mX12_goDay 99 [.ref 111, .ref c, .int (iI rain), .int (iI k), v4] [] τ K := by
  have hP7 := hS.1
  intro n
  induction n using Nat.strongRecOn with
  | _ n ih =>
  intro k w τ v4 hn hM hW hw hfr hlg hres
  refine go_iload_n dX12_goDay_99 rfl ?_
  refine go_aload_n dX12_goDay_100 rfl ?_
  refine go_getI fX12_294 dX12_goDay_101 rfl ?_
  refine go_icmp_ge (tgt := 119) dX12_goDay_104 (by decide) (fun h104 => ?_) (fun h104 => ?_)
  · rw [hM.2.1.1, iI_le (by omega)] at h104
    have hn1 : n = 0 := by omega
    subst hn1
    have e : w = W1 := hres
    subst e
    refine g119 (n := n0) hS hc hcx hM hW ⟨hw.1, hw.2.1, hw.2.2.1, by have := hd; show dy w + 1 ≤ 20000; omega⟩ (by rw [hlg 24 (by decide)]; exact hn0) hn60 (fun r2 n' off a1 a2 a3 a4 => hK τ r2 n' off hfr hM a1 a2 a3 ⟨a4.1, fun j hj => ?_, a4.2.2⟩)
    rw [a4.2.1 j hj]
    exact hlg _ (by omega)
  · rw [hM.2.1.1, iI_le (by omega)] at h104
    obtain ⟨m, rfl⟩ : ∃ m, n = m + 1 := ⟨n - 1, by omega⟩
    refine go_aload_n dX12_goDay_107 rfl ?_
    refine go_aload_n dX12_goDay_108 rfl ?_
    refine go_iload_n dX12_goDay_109 rfl ?_
    refine go_callV (as := [_, _]) wX12_353 dX12_goDay_110 rfl rfl rfl rfl (Nat.le_of_ble_eq_true rfl) (ct_X12_breeds hM.1 hM.2.1 hS hc hcx hW hw (by omega) (fun r hr hrl => ?_))
    refine go_iincI dX12_goDay_113 rfl (Nat.le_of_ble_eq_true rfl) rfl ?_
    refine go_goto (tgt := 99) dX12_goDay_116 (by decide) ?_
    simp only [List.set, iI_add]
    exact ih m (by omega) (k + 1) _ (sI τ c r) v4 (by omega) (hM.si hcx) (by rw [WM_R, sI_same]; exact hr) (livF_ok hS hw (by omega)) (hfr.sI (Or.inr (Or.inr rfl)) (by omega)) (fun j hj => by rw [sI_same, hrl j hj]; exact hlg j hj) hres
theorem g7 {l : Launch} {D : va_G} {cA ad : Nat → Nat} {d : Nat} {σ : AS} {K : Option Value → AS → Prop} {s : PS} {W1 : WT} {Ls : LwT} {h : Int} {c n0 : Nat} {rain : Int} (hS : TwK s) (hc : sh[c]? = some (1, 205)) (hcx : c = 124 ∨ c = 125) (hn0 : σ.1 c 24 = iI n0) (hn60 : n0 ≤ 60) (hr : 0 ≤ rain ∧ rain ≤ 1000) (hd : dy W1 < 20000) (hK : ∀ τ r2 n' off, FrN c σ τ → MS s Ls h τ → WR r2 (nxtD (lvsF s (nP s) 0 W1)) → n' ≤ 59 → (n0 ≠ 60 ∧ n' = n0 ∧ off = 0 ∨ n0 = 60 ∧ n' = 59 ∧ off = 3) → lgR (σ.1 c) r2 s (nxtD (lvsF s (nP s) 0 W1)) n' off → K none (sI τ c r2)) : ∀ (n k : Nat) (w : WT) (τ : AS) (v4 : Value), n + k = nP s → MS s Ls h τ → WM τ c w → WK s w → FrN c σ τ → (∀ j, 24 ≤ j → τ.1 c j = σ.1 c j) → wesF s rain n k w = W1 → Go l D cA ad (d + 2) mX12_goDay 7 [.ref 111, .ref c, .int (iI rain), .int (iI k), v4] [] τ K := by
  have hP7 := hS.1
  intro n
  induction n using Nat.strongRecOn with
  | _ n ih =>
  intro k w τ v4 hn hM hW hw hfr hlg hres
  refine go_iload_n dX12_goDay_7 rfl ?_
  refine go_aload_n dX12_goDay_8 rfl ?_
  refine go_getI fX12_294 dX12_goDay_9 rfl ?_
  refine go_icmp_ge (tgt := 97) dX12_goDay_12 (by decide) (fun h12 => ?_) (fun h12 => ?_)
  · rw [hM.2.1.1, iI_le (by omega)] at h12
    refine go_iconst (v := iI 0) dX12_goDay_97 (by decide) ?_
    refine go_istore_n dX12_goDay_98 (Nat.le_of_ble_eq_true rfl) rfl ?_
    simp only [List.set]
    have hn1 : n = 0 := by omega
    subst hn1
    have e : w = W1 := hres
    subst e
    refine g99 (σ := τ) (n0 := n0) hS hc hcx (by rw [hlg 24 (by decide)]; exact hn0) hn60 (by have := (lvsF_ok hS (nP s) 0 w hw (by omega)).2; unfold dy; rw [this]; exact hd) (fun τ2 r2 n' off a0 am a1 a2 a3 a4 => hK τ2 r2 n' off (hfr.tr a0) am a1 a2 a3 ⟨a4.1, fun j hj => ?_, a4.2.2⟩) (nP s) 0 w τ v4 (by omega) hM hW hw FrN.rf (fun _ _ => rfl) rfl
    rw [a4.2.1 j hj]
    exact hlg _ (by omega)
  · rw [hM.2.1.1, iI_le (by omega)] at h12
    obtain ⟨m, rfl⟩ : ∃ m, n = m + 1 := ⟨n - 1, by omega⟩
    have hsk := hS.2.2.1 1 (by decide)
    have hpk := hS.2.2.2.1 k (by omega)
    unfold PdK at hpk
    have h7 := wk7 hS hw k
    have hwk := hw.1 k (by omega)
    refine go_iconst (v := iI 3) dX12_goDay_15 (by decide) ?_
    refine go_iload_n dX12_goDay_16 rfl ?_
    refine go_imul dX12_goDay_17 ?_
    refine go_iconst (v := iI 0) dX12_goDay_18 (by decide) ?_
    refine go_iadd dX12_goDay_19 ?_
    rw [iI_mul, iI_add, show 3 * (k : Int) + 0 = ((3 * k : Nat) : Int) by omega]
    refine go_istore dX12_goDay_20 (Nat.le_of_ble_eq_true rfl) rfl ?_
    refine go_aload_n dX12_goDay_22 rfl ?_
    refine go_bipush (v := iI 22) dX12_goDay_23 (by decide) ?_
    refine go_dup2 dX12_goDay_25 rfl rfl ?_
    refine go_iald dX12_goDay_26 hc (vp_iI (by decide)) ?_
    rw [show (iI 22).toNatClampNeg = 22 by decide, hW.2.2.1]
    refine go_iconst (v := iI 0) dX12_goDay_27 (by decide) ?_
    refine go_aload_n dX12_goDay_28 rfl ?_
    refine go_iload dX12_goDay_29 rfl ?_
    refine go_iald dX12_goDay_31 hc (vp_iI (by omega)) ?_
    rw [cl_n _ (by omega), (hW.1 k (by omega)).1]
    refine go_iload_n dX12_goDay_32 rfl ?_
    refine go_iadd dX12_goDay_33 ?_
    rw [iI_add]
    refine go_aload_n dX12_goDay_34 rfl ?_
    refine go_iload_n dX12_goDay_35 rfl ?_
    refine go_iconst (v := iI 1) dX12_goDay_36 (by decide) ?_
    refine go_callV (as := [_, _]) wX12_300 dX12_goDay_37 rfl rfl rfl rfl (Nat.le_of_ble_eq_true rfl) (ct_X12_told (j := 1) hM.1 hM.2.1 hS.1 (by omega) (by decide) ?_)
    refine go_isub dX12_goDay_40 ?_
    rw [iI_sub]
    refine go_max wX12_328 dX12_goDay_41 (Nat.le_of_ble_eq_true rfl) ?_
    rw [iI_mx (by omega)]
    refine go_iadd dX12_goDay_44 ?_
    rw [iI_add]
    refine go_iast dX12_goDay_45 hc (vp_iI (by decide)) ?_
    rw [show (iI 22).toNatClampNeg = 22 by decide]
    refine go_aload_n dX12_goDay_46 rfl ?_
    refine go_iload dX12_goDay_47 rfl ?_
    refine go_aload_n dX12_goDay_49 rfl ?_
    refine go_iload_n dX12_goDay_50 rfl ?_
    refine go_iconst (v := iI 1) dX12_goDay_51 (by decide) ?_
    refine go_callV (as := [_, _]) wX12_300 dX12_goDay_52 rfl rfl rfl rfl (Nat.le_of_ble_eq_true rfl) (ct_X12_told (j := 1) (hM.si hcx).1 (hM.si hcx).2.1 hS.1 (by omega) (by decide) ?_)
    refine go_aload_n dX12_goDay_55 rfl ?_
    refine go_iload dX12_goDay_56 rfl ?_
    refine go_iald dX12_goDay_58 hc (vp_iI (by omega)) ?_
    rw [cl_n _ (by omega), sI_same, upd_ne _ _ _ _ (by omega), (hW.1 k (by omega)).1]
    refine go_iload_n dX12_goDay_59 rfl ?_
    refine go_iadd dX12_goDay_60 ?_
    rw [iI_add]
    refine go_min wX12_330 dX12_goDay_61 (Nat.le_of_ble_eq_true rfl) ?_
    rw [iI_mn (by omega)]
    have hmn := mn_or (pd s k 1) (wa w k + rain)
    refine go_iast dX12_goDay_64 hc (vp_iI (by omega)) ?_
    rw [cl_n _ (by omega), sI_same, sI_sI]
    refine go_aload_n dX12_goDay_65 rfl ?_
    refine go_iload dX12_goDay_66 rfl ?_
    refine go_iconst (v := iI 0) dX12_goDay_68 (by decide) ?_
    refine go_aload_n dX12_goDay_69 rfl ?_
    refine go_iload dX12_goDay_70 rfl ?_
    refine go_iald dX12_goDay_72 hc (vp_iI (by omega)) ?_
    rw [cl_n _ (by omega), sI_same, upd_same]
    refine go_aload_n dX12_goDay_73 rfl ?_
    refine go_getR fX12_37 dX12_goDay_74 rfl (hM.1 _ _ _ rfl) ?_
    refine go_iconst (v := iI 1) dX12_goDay_77 (by decide) ?_
    refine go_iald dX12_goDay_78 rfl (vp_iI (by decide)) ?_
    rw [cl_1, sI_ne _ _ _ _ (by omega), hM.2.1.2.2.1 1 (by decide)]
    refine go_isub dX12_goDay_79 ?_
    rw [iI_sub]
    refine go_aload_n dX12_goDay_80 rfl ?_
    refine go_iload_n dX12_goDay_81 rfl ?_
    refine go_iconst (v := iI 4) dX12_goDay_82 (by decide) ?_
    refine go_callV (as := [_, _]) wX12_300 dX12_goDay_83 rfl rfl rfl rfl (Nat.le_of_ble_eq_true rfl) (ct_X12_told (j := 4) (hM.si hcx).1 (hM.si hcx).2.1 hS.1 (by omega) (by decide) ?_)
    refine go_isub dX12_goDay_86 ?_
    rw [iI_sub]
    refine go_max wX12_328 dX12_goDay_87 (Nat.le_of_ble_eq_true rfl) ?_
    rw [iI_mx (by omega)]
    refine go_iast dX12_goDay_90 hc (vp_iI (by omega)) ?_
    rw [cl_n _ (by omega), sI_same, sI_sI, upd_upd]
    refine go_iincI dX12_goDay_91 rfl (Nat.le_of_ble_eq_true rfl) rfl ?_
    refine go_goto (tgt := 7) dX12_goDay_94 (by decide) ?_
    simp only [List.set, iI_add]
    have e : weaF s rain k w = (setF (wa w) k (mx 0 (mn (pd s k 1) (wa w k + rain) - skv s 1 - pd s k 4)), ca w, pk w, opn w, ovr w + mx 0 (wa w k + rain - pd s k 1), dy w) := by
      unfold weaF
      rw [mn_cm (wa w k + rain) (pd s k 1), show wa w k + rain - mn (pd s k 1) (wa w k + rain) = mx 0 (wa w k + rain - pd s k 1) by have := mx_or 0 (wa w k + rain - pd s k 1); omega]
    exact ih m (by omega) (k + 1) (weaF s rain k w) (sI τ c _) _ (by omega) (hM.si hcx) (by rw [WM_R, sI_same, e]; exact WR_wea (by omega) (WM_R.mp hW)) (weaF_ok hS hw (by omega) hr.1) (hfr.sI (Or.inr (Or.inr rfl)) (by omega)) (fun j hj => by rw [sI_same, upd_ne _ _ _ _ (by omega), upd_ne _ _ _ _ (by omega)]; exact hlg j hj) hres
theorem ct_X12_goDay {l : Launch} {D : va_G} {cA ad : Nat → Nat} {d : Nat} {σ : AS} {K : Option Value → AS → Prop} {s : PS} {w : WT} {Ls : LwT} {h : Int} {c n0 : Nat} {rain : Int} (hS : TwK s) (hc : sh[c]? = some (1, 205)) (hcx : c = 124 ∨ c = 125) (hLk : LsK Ls h) (hM : MS s Ls h σ) (hW : WM σ c w) (hw : WK s w) (hr : 0 ≤ rain ∧ rain ≤ 1000) (hd : dy w < 20000) (hn0 : σ.1 c 24 = iI n0) (hn60 : n0 ≤ 60) (hK : ∀ τ r2 n' off, FrN c σ τ → MS s Ls h τ → WR r2 (dayF s (hLw Ls h) rain w) → n' ≤ 59 → (n0 ≠ 60 ∧ n' = n0 ∧ off = 0 ∨ n0 = 60 ∧ n' = 59 ∧ off = 3) → lgR (σ.1 c) r2 s (dayF s (hLw Ls h) rain w) n' off → K none (sI τ c r2)) : Call l D cA ad (d + 35) mX12_goDay [.ref 111, .ref c, .int (iI rain)] σ K := by
  refine call_go (by decide) (Nat.le_of_ble_eq_true rfl) (show Go l D cA ad (d + 35) mX12_goDay 0 [.ref 111, .ref c, .int (iI rain), .null, .null] [] σ K from ?_)
  refine go_aload_n dX12_goDay_0 rfl ?_
  refine go_aload_n dX12_goDay_1 rfl ?_
  refine go_callV (as := [_]) wX12_349 dX12_goDay_2 rfl rfl rfl rfl (Nat.le_of_ble_eq_true rfl) (ct_X12_flows hS hc hcx hLk hM hW hw (fun τ fr hM2 hW2 hlg => ?_))
  refine go_iconst (v := iI 0) dX12_goDay_5 (by decide) ?_
  refine go_istore_n dX12_goDay_6 (Nat.le_of_ble_eq_true rfl) rfl ?_
  simp only [List.set]
  have hf := flwF_ok (hv := hLw Ls h) hS (nQ s) 0 w hw (by omega)
  have hwes := wesF_ok hS hr.1 (nP s) 0 _ hf.1 (by omega)
  refine g7 (σ := τ) (n0 := n0) hS hc hcx (by rw [hlg 24 (by decide)]; exact hn0) hn60 hr (by rw [hwes.2.2]; unfold dy; rw [hf.2]; exact hd) (fun τ2 r2 n' off a0 am a1 a2 a3 a4 => hK τ2 r2 n' off (fr.tr a0) am a1 a2 a3 ⟨a4.1, fun j hj => ?_, a4.2.2⟩) (nP s) 0 _ τ _ (by omega) hM2 hW2 hf.1 FrN.rf (fun _ _ => rfl) rfl
  rw [a4.2.1 j hj]
  exact hlg _ (by omega)

