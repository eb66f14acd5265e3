/-! the model: a town's text taken; count -/
theorem MI_tn {σ τ : AS} {X : XS} {s : PS} (hC : MI σ X) (h2 : τ.2 = σ.2) (e : ∀ k, k ≠ 111 → k ≠ 116 → k ≠ 118 → k ≠ 120 → k ≠ 124 → τ.1 k = σ.1 k) (f : ∀ j, j ≠ 6 → j ≠ 26 → j ≠ 27 → j ≠ 40 → j ≠ 45 → j ≠ 47 → τ.1 111 j = σ.1 111 j) (h6 : τ.1 111 6 = iI 0) (hT : TwM τ s) (hW : RwM (τ.1 124) (begW s) (xl X)) (h40 : τ.1 111 40 = iI 0) (h45 : τ.1 111 45 = iI 0) (h47 : τ.1 111 47 = iI 0) : MI τ (tnX X s) ∧ FD σ τ := by
  obtain ⟨c1, c2, c3, c4, c5, c6, c7, c8, c9, c10, c11, c12⟩ := hC
  have e' : ∀ k, (112 ≤ k ∧ k ≤ 115) ∨ k = 122 ∨ k = 123 ∨ 125 ≤ k → τ.1 k = σ.1 k := fun k hk => e k (by omega) (by omega) (by omega) (by omega) (by omega)
  have f' : ∀ j, j = 7 ∨ (28 ≤ j ∧ j < 40) → τ.1 111 j = σ.1 111 j := fun j hj => f j (by omega) (by omega) (by omega) (by omega) (by omega) (by omega)
  refine ⟨⟨⟨h6, fun i b hb => by simp [tnX, xt] at hb⟩, hT, hW, ⟨h40, fun j a ha => by simp [tnX, xa] at ha⟩, ⟨h47, fun a l q => by cases q⟩, ⟨h45, fun j m hm => by simp [tnX, xm] at hm⟩, ?_, ?_, ?_, ?_, ?_, ?_⟩, ⟨fun k hk => e k (by omega) (by omega) (by omega) (by omega) (by omega), fun k _ _ => by rw [h2], fun k j _ => by rw [h2]⟩⟩
  · unfold LsM; rw [f' 7 (by omega), f' 34 (by omega), e' 114 (by omega), e' 113 (by omega)]; exact c7
  · unfold MeM; rw [h2, e' 127 (by omega)]; exact c8
  · obtain ⟨ev, he⟩ := c9; exact ⟨ev, fun j hj => by rw [e' 115 (by omega)]; exact he j hj⟩
  · unfold PsM PLM; rw [f' 30 (by omega), e' 122 (by omega), e' 123 (by omega)]; exact c10
  · rw [f' 35 (by omega)]; exact c11
  · rw [f' 36 (by omega)]; exact c12
theorem TwM_124 {σ : AS} {s : PS} {r : Nat → Int32} (h : TwM σ s) : TwM (sI σ 124 r) s := by unfold TwM; rw [sI_ne _ _ _ _ (by decide), sI_ne _ _ _ _ (by decide), sI_ne _ _ _ _ (by decide), sI_ne _ _ _ _ (by decide)]; exact h
def BgM (s : PS) (r : Nat → Int32) (n : Nat) : Prop := (∀ p, p < 7 → r (3 * p) = iI (if p < n then pd s p 0 else 0) ∧ r (3 * p + 1) = iI (if p < n then pd s p 7 else 0) ∧ r (3 * p + 2) = iI (if p < n then pd s p 8 else 0)) ∧ ∀ j, 21 ≤ j → j < 205 → r j = iI 0
theorem BgM_s {s : PS} {r : Nat → Int32} {n : Nat} (h : BgM s r n) (hn : n < 7) : BgM s (upd (upd (upd r (3 * n) (iI (pd s n 0))) (3 * n + 1) (iI (pd s n 7))) (3 * n + 2) (iI (pd s n 8))) (n + 1) := by
  refine ⟨fun p hp => ?_, fun j h1 h2 => ?_⟩
  · by_cases c : p = n
    · subst c
      rw [if_pos (by omega), if_pos (by omega), if_pos (by omega)]
      refine ⟨?_, ?_, ?_⟩
      · rw [upd_ne _ _ _ _ (by omega), upd_ne _ _ _ _ (by omega), upd_same]
      · rw [upd_ne _ _ _ _ (by omega), upd_same]
      · rw [upd_same]
    · have q := h.1 p hp
      have e : ∀ (a b : Int), (if p < n + 1 then a else b) = if p < n then a else b := fun a b => by
        by_cases c2 : p < n
        · rw [if_pos c2, if_pos (by omega)]
        · rw [if_neg c2, if_neg (by omega)]
      rw [e, e, e]
      refine ⟨?_, ?_, ?_⟩
      · rw [upd_ne _ _ _ _ (by omega), upd_ne _ _ _ _ (by omega), upd_ne _ _ _ _ (by omega)]; exact q.1
      · rw [upd_ne _ _ _ _ (by omega), upd_ne _ _ _ _ (by omega), upd_ne _ _ _ _ (by omega)]; exact q.2.1
      · rw [upd_ne _ _ _ _ (by omega), upd_ne _ _ _ _ (by omega), upd_ne _ _ _ _ (by omega)]; exact q.2.2
  · rw [upd_ne _ _ _ _ (by omega), upd_ne _ _ _ _ (by omega), upd_ne _ _ _ _ (by omega)]; exact h.2 j h1 h2
def BgP (s : PS) (r : Nat → Int32) (n : Nat) : Prop := (∀ p, p < 7 → r (3 * p) = iI (wa (begW s) p) ∧ r (3 * p + 1) = iI (ca (begW s) p) ∧ r (3 * p + 2) = iI (pk (begW s) p)) ∧ r 21 = iI (btF (fun k => pp s k 4 == 1) n : Nat) ∧ ∀ j, 22 ≤ j → j < 205 → r j = iI 0
theorem BgP_s {s : PS} {r : Nat → Int32} {n : Nat} (h : BgP s r n) : BgP s (upd r 21 (iI (btF (fun k => pp s k 4 == 1) (n + 1) : Nat))) (n + 1) := by
  refine ⟨fun p hp => ?_, upd_same _ _ _, fun j h1 h2 => by rw [upd_ne _ _ _ _ (by omega)]; exact h.2.2 j h1 h2⟩
  rw [upd_ne _ _ _ _ (by omega), upd_ne _ _ _ _ (by omega), upd_ne _ _ _ _ (by omega)]
  exact h.1 p hp
theorem BgP_R {s : PS} {r : Nat → Int32} {lg : LG} (h : BgP s r (nQ s)) : RwM r (begW s) lg := ⟨⟨h.1, h.2.1, h.2.2 22 (by decide) (by decide), h.2.2 23 (by decide) (by decide)⟩, h.2.2 24 (by decide) (by decide), fun i k h1 => absurd h1 (Nat.not_lt_zero _)⟩
theorem tx223 {l : Launch} {D : va_G} {cA ad : Nat → Nat} {d : Nat} {σ : AS} {K : Option Value → AS → Prop} {g : Nat → Int32} {v2 : Int32} (hR : RO σ) (hK : Go l D cA ad d mX12_text 246 [.ref 111, .int (iI 0), .int v2, .int (iI 3)] [] (sI σ 116 (cpR (σ.1 117) g 3)) K) : ∀ i : Nat, i ≤ 3 → Go l D cA ad d mX12_text 223 [.ref 111, .int (iI 0), .int v2, .int (iI i)] [] (sI σ 116 (cpR (σ.1 117) g i)) K := by
  refine up_loop ?_ (fun i hi ih => ?_)
  · refine go_iload_n dX12_text_223 rfl ?_
    refine go_iconst (v := iI 3) dX12_text_224 (by decide) ?_
    refine go_icmp_ge (tgt := 246) dX12_text_225 (by decide) (fun h225 => ?_) (fun h225 => ?_)
    · exact hK
    · exact absurd (by decide) h225
  · refine go_iload_n dX12_text_223 rfl ?_
    refine go_iconst (v := iI 3) dX12_text_224 (by decide) ?_
    refine go_icmp_ge (tgt := 246) dX12_text_225 (by decide) (fun h225 => ?_) (fun h225 => ?_)
    · exfalso
      rw [iI_le (by omega)] at h225
      omega
    · refine go_aload_n dX12_text_228 rfl ?_
      refine go_getR fX12_37 dX12_text_229 rfl (hR _ _ _ rfl) ?_
      refine go_iload_n dX12_text_232 rfl ?_
      refine go_aload_n dX12_text_233 rfl ?_
      refine go_getR fX12_40 dX12_text_234 rfl (hR _ _ _ rfl) ?_
      refine go_iload_n dX12_text_237 rfl ?_
      refine go_iald dX12_text_238 rfl (vp_iI (by omega)) ?_
      rw [cl_n _ (by omega), sI_ne _ _ _ _ (by decide)]
      refine go_iast dX12_text_239 rfl (vp_iI (by omega)) ?_
      rw [cl_n _ (by omega), sI_same, sI_sI, cpR_s]
      refine go_iincI dX12_text_240 rfl (Nat.le_of_ble_eq_true rfl) rfl ?_
      refine go_goto (tgt := 223) dX12_text_243 (by decide) ?_
      simp only [List.set, iI_add]
      exact ih

theorem tx248 {l : Launch} {D : va_G} {cA ad : Nat → Nat} {d : Nat} {σ : AS} {K : Option Value → AS → Prop} {g : Nat → Int32} {v2 : Int32} (hR : RO σ) (hK : Go l D cA ad d mX12_text 272 [.ref 111, .int (iI 0), .int v2, .int (iI 63)] [] (sI σ 118 (cpR (σ.1 119) g 63)) K) : ∀ i : Nat, i ≤ 63 → Go l D cA ad d mX12_text 248 [.ref 111, .int (iI 0), .int v2, .int (iI i)] [] (sI σ 118 (cpR (σ.1 119) g i)) K := by
  refine up_loop ?_ (fun i hi ih => ?_)
  · refine go_iload_n dX12_text_248 rfl ?_
    refine go_bipush (v := iI 63) dX12_text_249 (by decide) ?_
    refine go_icmp_ge (tgt := 272) dX12_text_251 (by decide) (fun h251 => ?_) (fun h251 => ?_)
    · exact hK
    · exact absurd (by decide) h251
  · refine go_iload_n dX12_text_248 rfl ?_
    refine go_bipush (v := iI 63) dX12_text_249 (by decide) ?_
    refine go_icmp_ge (tgt := 272) dX12_text_251 (by decide) (fun h251 => ?_) (fun h251 => ?_)
    · exfalso
      rw [iI_le (by omega)] at h251
      omega
    · refine go_aload_n dX12_text_254 rfl ?_
      refine go_getR fX12_43 dX12_text_255 rfl (hR _ _ _ rfl) ?_
      refine go_iload_n dX12_text_258 rfl ?_
      refine go_aload_n dX12_text_259 rfl ?_
      refine go_getR fX12_46 dX12_text_260 rfl (hR _ _ _ rfl) ?_
      refine go_iload_n dX12_text_263 rfl ?_
      refine go_iald dX12_text_264 rfl (vp_iI (by omega)) ?_
      rw [cl_n _ (by omega), sI_ne _ _ _ _ (by decide)]
      refine go_iast dX12_text_265 rfl (vp_iI (by omega)) ?_
      rw [cl_n _ (by omega), sI_same, sI_sI, cpR_s]
      refine go_iincI dX12_text_266 rfl (Nat.le_of_ble_eq_true rfl) rfl ?_
      refine go_goto (tgt := 248) dX12_text_269 (by decide) ?_
      simp only [List.set, iI_add]
      exact ih

theorem tx274 {l : Launch} {D : va_G} {cA ad : Nat → Nat} {d : Nat} {σ : AS} {K : Option Value → AS → Prop} {g : Nat → Int32} {v2 : Int32} (hR : RO σ) (hK : Go l D cA ad d mX12_text 298 [.ref 111, .int (iI 0), .int v2, .int (iI 45)] [] (sI σ 120 (cpR (σ.1 121) g 45)) K) : ∀ i : Nat, i ≤ 45 → Go l D cA ad d mX12_text 274 [.ref 111, .int (iI 0), .int v2, .int (iI i)] [] (sI σ 120 (cpR (σ.1 121) g i)) K := by
  refine up_loop ?_ (fun i hi ih => ?_)
  · refine go_iload_n dX12_text_274 rfl ?_
    refine go_bipush (v := iI 45) dX12_text_275 (by decide) ?_
    refine go_icmp_ge (tgt := 298) dX12_text_277 (by decide) (fun h277 => ?_) (fun h277 => ?_)
    · exact hK
    · exact absurd (by decide) h277
  · refine go_iload_n dX12_text_274 rfl ?_
    refine go_bipush (v := iI 45) dX12_text_275 (by decide) ?_
    refine go_icmp_ge (tgt := 298) dX12_text_277 (by decide) (fun h277 => ?_) (fun h277 => ?_)
    · exfalso
      rw [iI_le (by omega)] at h277
      omega
    · refine go_aload_n dX12_text_280 rfl ?_
      refine go_getR fX12_49 dX12_text_281 rfl (hR _ _ _ rfl) ?_
      refine go_iload_n dX12_text_284 rfl ?_
      refine go_aload_n dX12_text_285 rfl ?_
      refine go_getR fX12_52 dX12_text_286 rfl (hR _ _ _ rfl) ?_
      refine go_iload_n dX12_text_289 rfl ?_
      refine go_iald dX12_text_290 rfl (vp_iI (by omega)) ?_
      rw [cl_n _ (by omega), sI_ne _ _ _ _ (by decide)]
      refine go_iast dX12_text_291 rfl (vp_iI (by omega)) ?_
      rw [cl_n _ (by omega), sI_same, sI_sI, cpR_s]
      refine go_iincI dX12_text_292 rfl (Nat.le_of_ble_eq_true rfl) rfl ?_
      refine go_goto (tgt := 274) dX12_text_295 (by decide) ?_
      simp only [List.set, iI_add]
      exact ih

theorem tx300 {l : Launch} {D : va_G} {cA ad : Nat → Nat} {d : Nat} {σ : AS} {K : Option Value → AS → Prop} {g : Nat → Int32} {v2 : Int32} (hR : RO σ) (hK : Go l D cA ad d mX12_text 320 [.ref 111, .int (iI 0), .int v2, .int (iI 205)] [] (sI σ 124 (cpR (fun _ => iI 0) g 205)) K) : ∀ i : Nat, i ≤ 205 → Go l D cA ad d mX12_text 300 [.ref 111, .int (iI 0), .int v2, .int (iI i)] [] (sI σ 124 (cpR (fun _ => iI 0) g i)) K := by
  refine up_loop ?_ (fun i hi ih => ?_)
  · refine go_iload_n dX12_text_300 rfl ?_
    refine go_sipush (v := iI 205) dX12_text_301 (by decide) ?_
    refine go_icmp_ge (tgt := 320) dX12_text_304 (by decide) (fun h304 => ?_) (fun h304 => ?_)
    · exact hK
    · exact absurd (by decide) h304
  · refine go_iload_n dX12_text_300 rfl ?_
    refine go_sipush (v := iI 205) dX12_text_301 (by decide) ?_
    refine go_icmp_ge (tgt := 320) dX12_text_304 (by decide) (fun h304 => ?_) (fun h304 => ?_)
    · exfalso
      rw [iI_le (by omega)] at h304
      omega
    · refine go_aload_n dX12_text_307 rfl ?_
      refine go_getR fX12_61 dX12_text_308 rfl (hR _ _ _ rfl) ?_
      refine go_iload_n dX12_text_311 rfl ?_
      refine go_iconst (v := iI 0) dX12_text_312 (by decide) ?_
      refine go_iast dX12_text_313 rfl (vp_iI (by omega)) ?_
      rw [cl_n _ (by omega), sI_same, sI_sI]
      rw [show upd (cpR (fun _ => iI 0) g i) i (iI 0) = cpR (fun _ => iI 0) g (i + 1) from cpR_s (fun _ => iI 0) g i]
      refine go_iincI dX12_text_314 rfl (Nat.le_of_ble_eq_true rfl) rfl ?_
      refine go_goto (tgt := 300) dX12_text_317 (by decide) ?_
      simp only [List.set, iI_add]
      exact ih

theorem tx322 {l : Launch} {D : va_G} {cA ad : Nat → Nat} {d : Nat} {σ : AS} {K : Option Value → AS → Prop} {s : PS} {v2 : Int32} (hR : RO σ) (hS : TwK s) (hT : TwM σ s) (hK : ∀ r, BgM s r (nP s) → Go l D cA ad (d + 1) mX12_text 386 [.ref 111, .int (iI 0), .int v2, .int (iI (nP s : Nat))] [] (sI σ 124 r) K) : ∀ (n i : Nat) (r : Nat → Int32), n + i = nP s → BgM s r i → Go l D cA ad (d + 1) mX12_text 322 [.ref 111, .int (iI 0), .int v2, .int (iI i)] [] (sI σ 124 r) K := by
  have hP7 := hS.1
  intro n
  induction n with
  | zero =>
    intro i r hr h
    obtain rfl : i = nP s := by omega
    refine go_iload_n dX12_text_322 rfl ?_
    refine go_aload_n dX12_text_323 rfl ?_
    refine go_getI fX12_294 dX12_text_324 rfl ?_
    refine go_icmp_ge (tgt := 386) dX12_text_327 (by decide) (fun h327 => ?_) (fun h327 => ?_)
    · exact hK r h
    · exfalso
      rw [(TwM_124 hT).1, iI_le (by omega)] at h327
      omega
  | succ n ih =>
    intro i r hr h
    have hi : i < nP s := by omega
    refine go_iload_n dX12_text_322 rfl ?_
    refine go_aload_n dX12_text_323 rfl ?_
    refine go_getI fX12_294 dX12_text_324 rfl ?_
    refine go_icmp_ge (tgt := 386) dX12_text_327 (by decide) (fun h327 => ?_) (fun h327 => ?_)
    · exfalso
      rw [(TwM_124 hT).1, iI_le (by omega)] at h327
      omega
    · refine go_aload_n dX12_text_330 rfl ?_
      refine go_getR fX12_61 dX12_text_331 rfl (hR _ _ _ rfl) ?_
      refine go_iconst (v := iI 3) dX12_text_334 (by decide) ?_
      refine go_iload_n dX12_text_335 rfl ?_
      refine go_imul dX12_text_336 ?_
      refine go_iconst (v := iI 0) dX12_text_337 (by decide) ?_
      refine go_iadd dX12_text_338 ?_
      rw [iI_mul, iI_add, show 3 * (i : Int) + 0 = ((3 * i : Nat) : Int) by omega]
      refine go_aload_n dX12_text_339 rfl ?_
      refine go_iload_n dX12_text_340 rfl ?_
      refine go_iconst (v := iI 0) dX12_text_341 (by decide) ?_
      refine go_callV (as := [_, _]) wX12_300 dX12_text_342 rfl rfl rfl rfl (Nat.le_of_ble_eq_true rfl) (ct_X12_told (j := 0) hR (TwM_124 hT) hS.1 hi (by decide) ?_)
      refine go_iast dX12_text_345 rfl (vp_iI (by omega)) ?_
      rw [cl_n _ (by omega), sI_same, sI_sI]
      refine go_aload_n dX12_text_346 rfl ?_
      refine go_getR fX12_61 dX12_text_347 rfl (hR _ _ _ rfl) ?_
      refine go_iconst (v := iI 3) dX12_text_350 (by decide) ?_
      refine go_iload_n dX12_text_351 rfl ?_
      refine go_imul dX12_text_352 ?_
      refine go_iconst (v := iI 1) dX12_text_353 (by decide) ?_
      refine go_iadd dX12_text_354 ?_
      rw [iI_mul, iI_add, show 3 * (i : Int) + 1 = ((3 * i + 1 : Nat) : Int) by omega]
      refine go_aload_n dX12_text_355 rfl ?_
      refine go_iload_n dX12_text_356 rfl ?_
      refine go_bipush (v := iI 7) dX12_text_357 (by decide) ?_
      refine go_callV (as := [_, _]) wX12_300 dX12_text_359 rfl rfl rfl rfl (Nat.le_of_ble_eq_true rfl) (ct_X12_told (j := 7) hR (TwM_124 hT) hS.1 hi (by decide) ?_)
      refine go_iast dX12_text_362 rfl (vp_iI (by omega)) ?_
      rw [cl_n _ (by omega), sI_same, sI_sI]
      refine go_aload_n dX12_text_363 rfl ?_
      refine go_getR fX12_61 dX12_text_364 rfl (hR _ _ _ rfl) ?_
      refine go_iconst (v := iI 3) dX12_text_367 (by decide) ?_
      refine go_iload_n dX12_text_368 rfl ?_
      refine go_imul dX12_text_369 ?_
      refine go_iconst (v := iI 2) dX12_text_370 (by decide) ?_
      refine go_iadd dX12_text_371 ?_
      rw [iI_mul, iI_add, show 3 * (i : Int) + 2 = ((3 * i + 2 : Nat) : Int) by omega]
      refine go_aload_n dX12_text_372 rfl ?_
      refine go_iload_n dX12_text_373 rfl ?_
      refine go_bipush (v := iI 8) dX12_text_374 (by decide) ?_
      refine go_callV (as := [_, _]) wX12_300 dX12_text_376 rfl rfl rfl rfl (Nat.le_of_ble_eq_true rfl) (ct_X12_told (j := 8) hR (TwM_124 hT) hS.1 hi (by decide) ?_)
      refine go_iast dX12_text_379 rfl (vp_iI (by omega)) ?_
      rw [cl_n _ (by omega), sI_same, sI_sI]
      refine go_iincI dX12_text_380 rfl (Nat.le_of_ble_eq_true rfl) rfl ?_
      refine go_goto (tgt := 322) dX12_text_383 (by decide) ?_
      simp only [List.set, iI_add]
      exact ih (i + 1) _ (by omega) (BgM_s h (by omega))
theorem tx388 {l : Launch} {D : va_G} {cA ad : Nat → Nat} {d : Nat} {σ : AS} {K : Option Value → AS → Prop} {s : PS} {v2 : Int32} (hR : RO σ) (hS : TwK s) (hT : TwM σ s) (hK : ∀ r, BgP s r (nQ s) → Go l D cA ad d mX12_text 424 [.ref 111, .int (iI 0), .int v2, .int (iI (nQ s : Nat))] [] (sI σ 124 r) K) : ∀ (n i : Nat) (r : Nat → Int32), n + i = nQ s → BgP s r i → Go l D cA ad d mX12_text 388 [.ref 111, .int (iI 0), .int v2, .int (iI i)] [] (sI σ 124 r) K := by
  have hQ9 := hS.2.1
  intro n
  induction n with
  | zero =>
    intro i r hr h
    obtain rfl : i = nQ s := by omega
    refine go_iload_n dX12_text_388 rfl ?_
    refine go_aload_n dX12_text_389 rfl ?_
    refine go_getI fX12_297 dX12_text_390 rfl ?_
    refine go_icmp_ge (tgt := 424) dX12_text_393 (by decide) (fun h393 => ?_) (fun h393 => ?_)
    · exact hK r h
    · exfalso
      rw [(TwM_124 hT).2.1, iI_le (by omega)] at h393
      omega
  | succ n ih =>
    intro i r hr h
    have hi : i < nQ s := by omega
    refine go_iload_n dX12_text_388 rfl ?_
    refine go_aload_n dX12_text_389 rfl ?_
    refine go_getI fX12_297 dX12_text_390 rfl ?_
    refine go_icmp_ge (tgt := 424) dX12_text_393 (by decide) (fun h393 => ?_) (fun h393 => ?_)
    · exfalso
      rw [(TwM_124 hT).2.1, iI_le (by omega)] at h393
      omega
    · refine go_aload_n dX12_text_396 rfl ?_
      refine go_getR fX12_61 dX12_text_397 rfl (hR _ _ _ rfl) ?_
      refine go_bipush (v := iI 21) dX12_text_400 (by decide) ?_
      refine go_dup2 dX12_text_402 rfl rfl ?_
      refine go_iald dX12_text_403 rfl (vp_iI (by decide)) ?_
      rw [show (iI 21).toNatClampNeg = 21 by decide, sI_same, h.2.1]
      refine go_aload_n dX12_text_404 rfl ?_
      refine go_getR fX12_49 dX12_text_405 rfl (hR _ _ _ rfl) ?_
      refine go_iconst (v := iI 5) dX12_text_408 (by decide) ?_
      refine go_iload_n dX12_text_409 rfl ?_
      refine go_imul dX12_text_410 ?_
      refine go_iconst (v := iI 4) dX12_text_411 (by decide) ?_
      refine go_iadd dX12_text_412 ?_
      rw [iI_mul, iI_add, show 5 * (i : Int) + 4 = ((5 * i + 4 : Nat) : Int) by omega]
      refine go_iald dX12_text_413 rfl (vp_iI (by omega)) ?_
      rw [cl_n _ (by omega), (TwM_124 hT).2.2.2.2 i 4 hi (by decide)]
      refine go_iload_n dX12_text_414 rfl ?_
      refine go_ishl dX12_text_415 ?_
      refine go_ior dX12_text_416 ?_
      have hbl := btF_512 (fun k => pp s k 4 == 1) i (by omega)
      have hpk := hS.2.2.2.2 i hi
      unfold PpK at hpk
      have e9 : iI (btF (fun k => pp s k 4 == 1) i : Nat) ||| (iI (pp s i 4) <<< (iI (i : Nat) &&& 31)) = iI ((btF (fun k => pp s k 4 == 1) (i + 1) : Nat) : Int) := by
        by_cases c : pp s i 4 = 1
        · rw [c, b_or _ hbl i (by omega), btF_t (by simp [c])]
        · have c0 : pp s i 4 = 0 := by omega
          rw [c0, b_or4 _ hbl i (by omega), btF_f (by simp [c0])]
      rw [e9]
      refine go_iast dX12_text_417 rfl (vp_iI (by decide)) ?_
      rw [show (iI 21).toNatClampNeg = 21 by decide, sI_same, sI_sI]
      refine go_iincI dX12_text_418 rfl (Nat.le_of_ble_eq_true rfl) rfl ?_
      refine go_goto (tgt := 388) dX12_text_421 (by decide) ?_
      simp only [List.set, iI_add]
      exact ih (i + 1) _ (by omega) (BgP_s h)
theorem tx424 {l : Launch} {D : va_G} {cA ad : Nat → Nat} {d : Nat} {σ : AS} {K : Option Value → AS → Prop} {s : PS} {v2 v3 : Int32} (hT : TwM σ s) (hK : K (some (.int (iI (nP s : Nat)))) (sI (sI (sI σ 111 (upd (σ.1 111) 45 (iI 0))) 111 (upd ((sI σ 111 (upd (σ.1 111) 45 (iI 0))).1 111) 40 (iI 0))) 111 (upd ((sI (sI σ 111 (upd (σ.1 111) 45 (iI 0))) 111 (upd ((sI σ 111 (upd (σ.1 111) 45 (iI 0))).1 111) 40 (iI 0))).1 111) 47 (iI 0)))) : Go l D cA ad d mX12_text 424 [.ref 111, .int (iI 0), .int v2, .int v3] [] σ K := by
  refine go_aload_n dX12_text_424 rfl ?_
  refine go_iconst (v := iI 0) dX12_text_425 (by decide) ?_
  refine go_putI fX12_303 rfl dX12_text_426 rfl rfl rfl ?_
  refine go_aload_n dX12_text_429 rfl ?_
  refine go_iconst (v := iI 0) dX12_text_430 (by decide) ?_
  refine go_putI fX12_306 rfl dX12_text_431 rfl rfl rfl ?_
  refine go_aload_n dX12_text_434 rfl ?_
  refine go_iconst (v := iI 0) dX12_text_435 (by decide) ?_
  refine go_putI fX12_309 rfl dX12_text_436 rfl rfl rfl ?_
  refine go_aload_n dX12_text_439 rfl ?_
  refine go_getI fX12_294 dX12_text_440 rfl ?_
  rw [sI_same, upd_ne _ _ _ _ (by decide), sI_same, upd_ne _ _ _ _ (by decide), sI_same, upd_ne _ _ _ _ (by decide), hT.1]
  refine go_iret rfl rfl dX12_text_443 ?_
  exact hK
theorem ct_mtext0 {l : Launch} {D : va_G} {cA ad : Nat → Nat} {d : Nat} {σ : AS} {K : Option Value → AS → Prop} {X : XS} (hR : RO σ) (hK0 : XK X) (hC : MI σ X) (hK : ∀ τ, FD σ τ → MI τ (txt2 X 0).1 → K (some (.int (iI (txt2 X 0).2))) τ) : Call l D cA ad (d + 33) mX12_text [.ref 111, .int (iI 0)] σ K := by
  refine call_go (by decide) (Nat.le_of_ble_eq_true rfl) (show Go l D cA ad (d + 33) mX12_text 0 [.ref 111, .int (iI 0), .null, .null] [] σ K from ?_)
  refine go_aload_n dX12_text_0 rfl ?_
  refine go_iconst (v := iI 0) dX12_text_1 (by decide) ?_
  refine go_putI fX12_96 rfl dX12_text_2 rfl rfl rfl ?_
  have hq : DF (xL X) σ (sI σ 111 (upd (σ.1 111) 0 (iI 0))) := DF_f0 DF.rf
  have hR0 := hq.RO hR
  have hC0 := hC.q hK0 hq
  generalize sI σ 111 (upd (σ.1 111) 0 (iI 0)) = τ at hq hR0 hC0 ⊢
  refine go_iload_n dX12_text_5 rfl ?_
  refine go_i2l dX12_text_6 ?_
  rw [i2l_iI (by decide)]
  refine go_lconst (v := 0) dX12_text_7 (by decide) ?_
  refine go_ldc2 lX12_275 dX12_text_8 ?_
  refine go_callS (as := [_, _, _]) wX12_217 dX12_text_11 rfl rfl (Nat.le_of_ble_eq_true rfl) (ct_isIn2 (x := 0) (y := 2) (by decide) (by decide) (by decide) (fun hi => ?_) (fun hi => absurd (by decide) hi))
  · refine go_if_eq (tgt := 52) dX12_text_14 (by decide) (fun h14 => ?_) (fun h14 => ?_)
    · exact absurd h14 (by decide)
    · refine go_iload_n dX12_text_17 rfl ?_
      refine go_iconst (v := iI 1) dX12_text_18 (by decide) ?_
      refine go_icmp_ne (tgt := 30) dX12_text_19 (by decide) (fun h19 => ?_) (fun h19 => ?_)
      · refine go_iload_n dX12_text_30 rfl ?_
        refine go_iconst (v := iI 2) dX12_text_31 (by decide) ?_
        refine go_icmp_ne (tgt := 43) dX12_text_32 (by decide) (fun h32 => ?_) (fun h32 => ?_)
        · refine go_aload_n dX12_text_43 rfl ?_
          refine go_iload_n dX12_text_44 rfl ?_
          refine go_callV (as := [_]) wX12_292 dX12_text_45 rfl rfl rfl rfl (Nat.le_of_ble_eq_true rfl) (ct_mfault0 hR0 hK0 hC0 (fun ρ hq2 hrd => ?_))
          have hR1 := hq2.RO hR0
          have hC1 := hC0.q hK0 hq2
          refine go_iconst (v := iI (-1)) dX12_text_48 (by decide) ?_
          refine go_icmp_eq (tgt := 54) dX12_text_49 (by decide) (fun h49 => ?_) (fun h49 => ?_)
          · have ef : fltA X 0 = ff (twS (xt X) 242 0 ps0) := by unfold fltA; rw [if_pos rfl]
            obtain ⟨q, r, e⟩ : ∃ q r, twS (xt X) 242 0 ps0 = (q, some r) := by
              cases e : twS (xt X) 242 0 ps0 with
              | mk q r =>
                cases r with
                | some r => exact ⟨q, r, rfl⟩
                | none =>
                  exfalso
                  rw [ef, ff_n e, iI_eq (by have := rdlen0 e; have := hK0.t.1; omega)] at h49
                  omega
            refine go_aload_n dX12_text_54 rfl ?_
            refine go_getI fX12_109 dX12_text_55 rfl ?_
            rw [hC1.1.1]
            refine go_istore_n dX12_text_58 (Nat.le_of_ble_eq_true rfl) rfl ?_
            refine go_aload_n dX12_text_59 rfl ?_
            refine go_iconst (v := iI 0) dX12_text_60 (by decide) ?_
            refine go_putI fX12_109 rfl dX12_text_61 rfl rfl rfl ?_
            refine go_iload_n dX12_text_64 rfl ?_
            refine go_iconst (v := iI 1) dX12_text_65 (by decide) ?_
            refine go_icmp_ne (tgt := 130) dX12_text_66 (by decide) (fun h66 => ?_) (fun h66 => ?_)
            · refine go_iload_n dX12_text_130 rfl ?_
              refine go_iconst (v := iI 2) dX12_text_131 (by decide) ?_
              refine go_icmp_ne (tgt := 205) dX12_text_132 (by decide) (fun h132 => ?_) (fun h132 => ?_)
              · refine go_aload_n dX12_text_205 rfl ?_
                refine go_aload_n dX12_text_206 rfl ?_
                refine go_getI fX12_245 dX12_text_207 rfl ?_
                refine go_putI fX12_294 rfl dX12_text_210 rfl rfl rfl ?_
                refine go_aload_n dX12_text_213 rfl ?_
                refine go_aload_n dX12_text_214 rfl ?_
                refine go_getI fX12_248 dX12_text_215 rfl ?_
                refine go_putI fX12_297 rfl dX12_text_218 rfl rfl rfl ?_
                refine go_iconst (v := iI 0) dX12_text_221 (by decide) ?_
                refine go_istore_n dX12_text_222 (Nat.le_of_ble_eq_true rfl) rfl ?_
                simp only [List.set]
                obtain ⟨hsm, hp, hg⟩ := hrd.1 rfl q r e
                have hS := TwK_of hp hg (twS_wh _ _ _ _ _ e)
                have hP7 := hS.1
                have hQ9 := hS.2.1
                rw [txt_0, e] at hK
                have eR : RO (sI (sI (sI ρ 111 (upd (ρ.1 111) 6 (iI 0))) 111 (upd ((sI ρ 111 (upd (ρ.1 111) 6 (iI 0))).1 111) 26 ((sI ρ 111 (upd (ρ.1 111) 6 (iI 0))).1 111 28))) 111 (upd ((sI (sI ρ 111 (upd (ρ.1 111) 6 (iI 0))) 111 (upd ((sI ρ 111 (upd (ρ.1 111) 6 (iI 0))).1 111) 26 ((sI ρ 111 (upd (ρ.1 111) 6 (iI 0))).1 111 28))).1 111) 27 ((sI (sI ρ 111 (upd (ρ.1 111) 6 (iI 0))) 111 (upd ((sI ρ 111 (upd (ρ.1 111) 6 (iI 0))).1 111) 26 ((sI ρ 111 (upd (ρ.1 111) 6 (iI 0))).1 111 28))).1 111 29))) := hR1
                have e2 : ((sI (sI (sI ρ 111 (upd (ρ.1 111) 6 (iI 0))) 111 (upd ((sI ρ 111 (upd (ρ.1 111) 6 (iI 0))).1 111) 26 ((sI ρ 111 (upd (ρ.1 111) 6 (iI 0))).1 111 28))) 111 (upd ((sI (sI ρ 111 (upd (ρ.1 111) 6 (iI 0))) 111 (upd ((sI ρ 111 (upd (ρ.1 111) 6 (iI 0))).1 111) 26 ((sI ρ 111 (upd (ρ.1 111) 6 (iI 0))).1 111 28))).1 111) 27 ((sI (sI ρ 111 (upd (ρ.1 111) 6 (iI 0))) 111 (upd ((sI ρ 111 (upd (ρ.1 111) 6 (iI 0))).1 111) 26 ((sI ρ 111 (upd (ρ.1 111) 6 (iI 0))).1 111 28))).1 111 29)))).2 = ρ.2 := rfl
                have ek : ∀ k, k ≠ 111 → ((sI (sI (sI ρ 111 (upd (ρ.1 111) 6 (iI 0))) 111 (upd ((sI ρ 111 (upd (ρ.1 111) 6 (iI 0))).1 111) 26 ((sI ρ 111 (upd (ρ.1 111) 6 (iI 0))).1 111 28))) 111 (upd ((sI (sI ρ 111 (upd (ρ.1 111) 6 (iI 0))) 111 (upd ((sI ρ 111 (upd (ρ.1 111) 6 (iI 0))).1 111) 26 ((sI ρ 111 (upd (ρ.1 111) 6 (iI 0))).1 111 28))).1 111) 27 ((sI (sI ρ 111 (upd (ρ.1 111) 6 (iI 0))) 111 (upd ((sI ρ 111 (upd (ρ.1 111) 6 (iI 0))).1 111) 26 ((sI ρ 111 (upd (ρ.1 111) 6 (iI 0))).1 111 28))).1 111 29)))).1 k = ρ.1 k := fun k hk => by rw [sI_ne _ _ _ _ hk, sI_ne _ _ _ _ hk, sI_ne _ _ _ _ hk]
                have efn : ∀ j, j ≠ 6 → j ≠ 26 → j ≠ 27 → ((sI (sI (sI ρ 111 (upd (ρ.1 111) 6 (iI 0))) 111 (upd ((sI ρ 111 (upd (ρ.1 111) 6 (iI 0))).1 111) 26 ((sI ρ 111 (upd (ρ.1 111) 6 (iI 0))).1 111 28))) 111 (upd ((sI (sI ρ 111 (upd (ρ.1 111) 6 (iI 0))) 111 (upd ((sI ρ 111 (upd (ρ.1 111) 6 (iI 0))).1 111) 26 ((sI ρ 111 (upd (ρ.1 111) 6 (iI 0))).1 111 28))).1 111) 27 ((sI (sI ρ 111 (upd (ρ.1 111) 6 (iI 0))) 111 (upd ((sI ρ 111 (upd (ρ.1 111) 6 (iI 0))).1 111) 26 ((sI ρ 111 (upd (ρ.1 111) 6 (iI 0))).1 111 28))).1 111 29)))).1 111 j = ρ.1 111 j := fun j h1 h2 h3 => by rw [sI_same, upd_ne _ _ _ _ h3, sI_same, upd_ne _ _ _ _ h2, sI_same, upd_ne _ _ _ _ h1]
                have ef6 : ((sI (sI (sI ρ 111 (upd (ρ.1 111) 6 (iI 0))) 111 (upd ((sI ρ 111 (upd (ρ.1 111) 6 (iI 0))).1 111) 26 ((sI ρ 111 (upd (ρ.1 111) 6 (iI 0))).1 111 28))) 111 (upd ((sI (sI ρ 111 (upd (ρ.1 111) 6 (iI 0))) 111 (upd ((sI ρ 111 (upd (ρ.1 111) 6 (iI 0))).1 111) 26 ((sI ρ 111 (upd (ρ.1 111) 6 (iI 0))).1 111 28))).1 111) 27 ((sI (sI ρ 111 (upd (ρ.1 111) 6 (iI 0))) 111 (upd ((sI ρ 111 (upd (ρ.1 111) 6 (iI 0))).1 111) 26 ((sI ρ 111 (upd (ρ.1 111) 6 (iI 0))).1 111 28))).1 111 29)))).1 111 6 = iI 0 := by rw [sI_same, upd_ne _ _ _ _ (by decide), sI_same, upd_ne _ _ _ _ (by decide), sI_same, upd_same]
                have ef26 : ((sI (sI (sI ρ 111 (upd (ρ.1 111) 6 (iI 0))) 111 (upd ((sI ρ 111 (upd (ρ.1 111) 6 (iI 0))).1 111) 26 ((sI ρ 111 (upd (ρ.1 111) 6 (iI 0))).1 111 28))) 111 (upd ((sI (sI ρ 111 (upd (ρ.1 111) 6 (iI 0))) 111 (upd ((sI ρ 111 (upd (ρ.1 111) 6 (iI 0))).1 111) 26 ((sI ρ 111 (upd (ρ.1 111) 6 (iI 0))).1 111 28))).1 111) 27 ((sI (sI ρ 111 (upd (ρ.1 111) 6 (iI 0))) 111 (upd ((sI ρ 111 (upd (ρ.1 111) 6 (iI 0))).1 111) 26 ((sI ρ 111 (upd (ρ.1 111) 6 (iI 0))).1 111 28))).1 111 29)))).1 111 26 = iI (nP r : Nat) := by rw [sI_same, upd_ne _ _ _ _ (by decide), sI_same, upd_same, sI_same, upd_ne _ _ _ _ (by decide)]; exact hsm.2.1
                have ef27 : ((sI (sI (sI ρ 111 (upd (ρ.1 111) 6 (iI 0))) 111 (upd ((sI ρ 111 (upd (ρ.1 111) 6 (iI 0))).1 111) 26 ((sI ρ 111 (upd (ρ.1 111) 6 (iI 0))).1 111 28))) 111 (upd ((sI (sI ρ 111 (upd (ρ.1 111) 6 (iI 0))) 111 (upd ((sI ρ 111 (upd (ρ.1 111) 6 (iI 0))).1 111) 26 ((sI ρ 111 (upd (ρ.1 111) 6 (iI 0))).1 111 28))).1 111) 27 ((sI (sI ρ 111 (upd (ρ.1 111) 6 (iI 0))) 111 (upd ((sI ρ 111 (upd (ρ.1 111) 6 (iI 0))).1 111) 26 ((sI ρ 111 (upd (ρ.1 111) 6 (iI 0))).1 111 28))).1 111 29)))).1 111 27 = iI (nQ r : Nat) := by rw [sI_same, upd_same, sI_same, upd_ne _ _ _ _ (by decide), sI_same, upd_ne _ _ _ _ (by decide)]; exact hsm.2.2.1
                generalize (sI (sI (sI ρ 111 (upd (ρ.1 111) 6 (iI 0))) 111 (upd ((sI ρ 111 (upd (ρ.1 111) 6 (iI 0))).1 111) 26 ((sI ρ 111 (upd (ρ.1 111) 6 (iI 0))).1 111 28))) 111 (upd ((sI (sI ρ 111 (upd (ρ.1 111) 6 (iI 0))) 111 (upd ((sI ρ 111 (upd (ρ.1 111) 6 (iI 0))).1 111) 26 ((sI ρ 111 (upd (ρ.1 111) 6 (iI 0))).1 111 28))).1 111) 27 ((sI (sI ρ 111 (upd (ρ.1 111) 6 (iI 0))) 111 (upd ((sI ρ 111 (upd (ρ.1 111) 6 (iI 0))).1 111) 26 ((sI ρ 111 (upd (ρ.1 111) 6 (iI 0))).1 111 28))).1 111 29))) = ψ at eR e2 ek efn ef6 ef26 ef27 ⊢
                have h9 := tx223 (l := l) (D := D) (cA := cA) (ad := ad) (d := (d + 33)) (σ := ψ) (K := K) (g := ψ.1 116) (v2 := iI ((xt X).length : Nat)) eR ?_ 0 (by omega)
                · rw [cpR_0, sI_self] at h9
                  exact h9
                refine go_iconst (v := iI 0) dX12_text_246 (by decide) ?_
                refine go_istore_n dX12_text_247 (Nat.le_of_ble_eq_true rfl) rfl ?_
                simp only [List.set]
                have hR2 : RO (sI ψ 116 (cpR (ψ.1 117) (ψ.1 116) 3)) := eR
                have a1 : ∀ k, k ≠ 116 → (sI ψ 116 (cpR (ψ.1 117) (ψ.1 116) 3)).1 k = ψ.1 k := fun k hk => sI_ne _ _ _ _ hk
                have a2 : ∀ j, j < 3 → (sI ψ 116 (cpR (ψ.1 117) (ψ.1 116) 3)).1 116 j = ρ.1 117 j := fun j hj => by rw [sI_same]; unfold cpR; rw [if_pos hj, ek 117 (by decide)]
                have a3 : (sI ψ 116 (cpR (ψ.1 117) (ψ.1 116) 3)).2 = ρ.2 := e2
                generalize sI ψ 116 (cpR (ψ.1 117) (ψ.1 116) 3) = ψ1 at hR2 a1 a2 a3 ⊢
                have h9 := tx248 (l := l) (D := D) (cA := cA) (ad := ad) (d := (d + 33)) (σ := ψ1) (K := K) (g := ψ1.1 118) (v2 := iI ((xt X).length : Nat)) hR2 ?_ 0 (by omega)
                · rw [cpR_0, sI_self] at h9
                  exact h9
                refine go_iconst (v := iI 0) dX12_text_272 (by decide) ?_
                refine go_istore_n dX12_text_273 (Nat.le_of_ble_eq_true rfl) rfl ?_
                simp only [List.set]
                have hR3 : RO (sI ψ1 118 (cpR (ψ1.1 119) (ψ1.1 118) 63)) := hR2
                have b1 : ∀ k, k ≠ 118 → (sI ψ1 118 (cpR (ψ1.1 119) (ψ1.1 118) 63)).1 k = ψ1.1 k := fun k hk => sI_ne _ _ _ _ hk
                have b2 : ∀ j, j < 63 → (sI ψ1 118 (cpR (ψ1.1 119) (ψ1.1 118) 63)).1 118 j = ρ.1 119 j := fun j hj => by rw [sI_same]; unfold cpR; rw [if_pos hj, a1 119 (by decide), ek 119 (by decide)]
                have b3 : (sI ψ1 118 (cpR (ψ1.1 119) (ψ1.1 118) 63)).2 = ρ.2 := a3
                generalize sI ψ1 118 (cpR (ψ1.1 119) (ψ1.1 118) 63) = ψ2 at hR3 b1 b2 b3 ⊢
                have h9 := tx274 (l := l) (D := D) (cA := cA) (ad := ad) (d := (d + 33)) (σ := ψ2) (K := K) (g := ψ2.1 120) (v2 := iI ((xt X).length : Nat)) hR3 ?_ 0 (by omega)
                · rw [cpR_0, sI_self] at h9
                  exact h9
                refine go_iconst (v := iI 0) dX12_text_298 (by decide) ?_
                refine go_istore_n dX12_text_299 (Nat.le_of_ble_eq_true rfl) rfl ?_
                simp only [List.set]
                have hR4 : RO (sI ψ2 120 (cpR (ψ2.1 121) (ψ2.1 120) 45)) := hR3
                have c1 : ∀ k, k ≠ 120 → (sI ψ2 120 (cpR (ψ2.1 121) (ψ2.1 120) 45)).1 k = ψ2.1 k := fun k hk => sI_ne _ _ _ _ hk
                have c2 : ∀ j, j < 45 → (sI ψ2 120 (cpR (ψ2.1 121) (ψ2.1 120) 45)).1 120 j = ρ.1 121 j := fun j hj => by rw [sI_same]; unfold cpR; rw [if_pos hj, b1 121 (by decide), a1 121 (by decide), ek 121 (by decide)]
                have c3 : (sI ψ2 120 (cpR (ψ2.1 121) (ψ2.1 120) 45)).2 = ρ.2 := b3
                generalize sI ψ2 120 (cpR (ψ2.1 121) (ψ2.1 120) 45) = ψ3 at hR4 c1 c2 c3 ⊢
                have hTw : TwM ψ3 r := by
                  refine ⟨?_, ?_, fun j hj => ?_, fun i j hi hj => ?_, fun i j hi hj => ?_⟩
                  · rw [c1 111 (by decide), b1 111 (by decide), a1 111 (by decide)]; exact ef26
                  · rw [c1 111 (by decide), b1 111 (by decide), a1 111 (by decide)]; exact ef27
                  · rw [c1 116 (by decide), b1 116 (by decide), a2 j hj]; exact hsm.2.2.2.1 j hj
                  · rw [c1 118 (by decide), b2 _ (by omega)]; exact hsm.2.2.2.2.1 i j hi hj
                  · rw [c2 _ (by omega)]; exact hsm.2.2.2.2.2 i j hi hj
                have ce : ∀ k, k ≠ 111 → k ≠ 116 → k ≠ 118 → k ≠ 120 → ψ3.1 k = ρ.1 k := fun k h1 h2 h3 h4 => by rw [c1 k h4, b1 k h3, a1 k h2, ek k h1]
                have cf : ψ3.1 111 = ψ.1 111 := by rw [c1 111 (by decide), b1 111 (by decide), a1 111 (by decide)]
                have h9 := tx300 (l := l) (D := D) (cA := cA) (ad := ad) (d := (d + 33)) (σ := ψ3) (K := K) (g := ψ3.1 124) (v2 := iI ((xt X).length : Nat)) hR4 ?_ 0 (by omega)
                · rw [cpR_0, sI_self] at h9
                  exact h9
                refine go_iconst (v := iI 0) dX12_text_320 (by decide) ?_
                refine go_istore_n dX12_text_321 (Nat.le_of_ble_eq_true rfl) rfl ?_
                simp only [List.set]
                refine tx322 hR4 hS hTw (fun r1 hr1 => ?_) (nP r) 0 _ (by omega) ⟨fun p hp => ?_, fun j h1 h2 => ?_⟩
                · refine go_iconst (v := iI 0) dX12_text_386 (by decide) ?_
                  refine go_istore_n dX12_text_387 (Nat.le_of_ble_eq_true rfl) rfl ?_
                  simp only [List.set]
                  refine tx388 hR4 hS hTw (fun r2 hr2 => ?_) (nQ r) 0 r1 (by omega) ⟨fun p hp => ?_, hr1.2 21 (by decide) (by decide), fun j h1 h2 => hr1.2 j (by omega) h2⟩
                  · refine tx424 (TwM_124 hTw) ?_
                    have hfin := MI_tn (τ := (sI (sI (sI (sI ψ3 124 r2) 111 (upd ((sI ψ3 124 r2).1 111) 45 (iI 0))) 111 (upd ((sI (sI ψ3 124 r2) 111 (upd ((sI ψ3 124 r2).1 111) 45 (iI 0))).1 111) 40 (iI 0))) 111 (upd ((sI (sI (sI ψ3 124 r2) 111 (upd ((sI ψ3 124 r2).1 111) 45 (iI 0))) 111 (upd ((sI (sI ψ3 124 r2) 111 (upd ((sI ψ3 124 r2).1 111) 45 (iI 0))).1 111) 40 (iI 0))).1 111) 47 (iI 0)))) (s := r) hC1 (by exact c3) (fun k h1 h2 h3 h4 h5 => by rw [sI_ne _ _ _ _ h1, sI_ne _ _ _ _ h1, sI_ne _ _ _ _ h1, sI_ne _ _ _ _ h5]; exact ce k h1 h2 h3 h4) (fun j h1 h2 h3 h4 h5 h6 => by rw [sI_same, upd_ne _ _ _ _ h6, sI_same, upd_ne _ _ _ _ h4, sI_same, upd_ne _ _ _ _ h5, sI_ne _ _ _ _ (by decide), cf]; exact efn j h1 h2 h3) (by rw [sI_same, upd_ne _ _ _ _ (by decide), sI_same, upd_ne _ _ _ _ (by decide), sI_same, upd_ne _ _ _ _ (by decide), sI_ne _ _ _ _ (by decide), cf]; exact ef6) ?_ ?_ (by rw [sI_same, upd_ne _ _ _ _ (by decide), sI_same, upd_same]) (by rw [sI_same, upd_ne _ _ _ _ (by decide), sI_same, upd_ne _ _ _ _ (by decide), sI_same, upd_same]) (by rw [sI_same, upd_same])
                    · exact hK _ ((hq.tr hq2).1.tr hfin.2) hfin.1
                    · have hT4 := TwM_124 (r := r2) hTw
                      refine ⟨by rw [sI_same, upd_ne _ _ _ _ (by decide), sI_same, upd_ne _ _ _ _ (by decide), sI_same, upd_ne _ _ _ _ (by decide)]; exact hT4.1, by rw [sI_same, upd_ne _ _ _ _ (by decide), sI_same, upd_ne _ _ _ _ (by decide), sI_same, upd_ne _ _ _ _ (by decide)]; exact hT4.2.1, ?_, ?_, ?_⟩
                      · rw [sI_ne _ _ _ _ (by decide), sI_ne _ _ _ _ (by decide), sI_ne _ _ _ _ (by decide)]; exact hT4.2.2.1
                      · rw [sI_ne _ _ _ _ (by decide), sI_ne _ _ _ _ (by decide), sI_ne _ _ _ _ (by decide)]; exact hT4.2.2.2.1
                      · rw [sI_ne _ _ _ _ (by decide), sI_ne _ _ _ _ (by decide), sI_ne _ _ _ _ (by decide)]; exact hT4.2.2.2.2
                    · rw [sI_ne _ _ _ _ (by decide), sI_ne _ _ _ _ (by decide), sI_ne _ _ _ _ (by decide), sI_same]; exact BgP_R hr2
                  · have h8 := hr1.1 p hp
                    exact h8
                · unfold cpR
                  rw [if_pos (show 3 * p < 205 by omega), if_pos (show 3 * p + 1 < 205 by omega), if_pos (show 3 * p + 2 < 205 by omega), if_neg (show ¬ p < 0 by omega), if_neg (show ¬ p < 0 by omega), if_neg (show ¬ p < 0 by omega)]
                  exact ⟨rfl, rfl, rfl⟩
                · unfold cpR
                  rw [if_pos h2]
              · exact absurd h132 (by decide)
            · exact absurd h66 (by decide)
          · have ef : fltA X 0 = ff (twS (xt X) 242 0 ps0) := by unfold fltA; rw [if_pos rfl]
            obtain ⟨q, e⟩ : ∃ q, twS (xt X) 242 0 ps0 = (q, none) := by
              cases e : twS (xt X) 242 0 ps0 with
              | mk q r =>
                cases r with
                | none => exact ⟨q, rfl⟩
                | some r =>
                  exfalso
                  rw [ef, ff_s e] at h49
                  exact h49 rfl
            refine go_iconst (v := iI (-1)) dX12_text_52 (by decide) ?_
            refine go_iret rfl rfl dX12_text_53 ?_
            rw [txt_0, e] at hK
            exact hK ρ (hq.tr hq2).1 hC1
        · exact absurd h32 (by decide)
      · exact absurd h19 (by decide)

theorem ct_X12_text {l : Launch} {D : va_G} {cA ad : Nat → Nat} {d : Nat} {σ : AS} {K : Option Value → AS → Prop} {X : XS} {a : Int} (hR : RO σ) (hK0 : XK X) (hC : MI σ X) (ha32 : -2147483648 ≤ a ∧ a < 2147483648) (hK : ∀ τ, FD σ τ → MI τ (txt2 X a).1 → K (some (.int (iI (txt2 X a).2))) τ) : Call l D cA ad (d + 33) mX12_text [.ref 111, .int (iI a)] σ K := by
  by_cases h : 0 ≤ a ∧ a ≤ 2
  · rcases (show a = 0 ∨ a = 1 ∨ a = 2 by omega) with rfl | rfl | rfl
    · exact ct_mtext0 hR hK0 hC hK
    · exact ct_mtext1 hR hK0 hC hK
    · exact ct_mtext2 hR hK0 hC hK
  refine call_go (by decide) (Nat.le_of_ble_eq_true rfl) (show Go l D cA ad (d + 33) mX12_text 0 [.ref 111, .int (iI a), .null, .null] [] σ K from ?_)
  refine go_aload_n dX12_text_0 rfl ?_
  refine go_iconst (v := iI 0) dX12_text_1 (by decide) ?_
  refine go_putI fX12_96 rfl dX12_text_2 rfl rfl rfl ?_
  have hq : DF (xL X) σ (sI σ 111 (upd (σ.1 111) 0 (iI 0))) := DF_f0 DF.rf
  have hR0 := hq.RO hR
  have hC0 := hC.q hK0 hq
  generalize sI σ 111 (upd (σ.1 111) 0 (iI 0)) = τ at hq hR0 hC0 ⊢
  refine go_iload_n dX12_text_5 rfl ?_
  refine go_i2l dX12_text_6 ?_
  rw [i2l_iI (by omega)]
  refine go_lconst (v := 0) dX12_text_7 (by decide) ?_
  refine go_ldc2 lX12_275 dX12_text_8 ?_
  refine go_callS (as := [_, _, _]) wX12_217 dX12_text_11 rfl rfl (Nat.le_of_ble_eq_true rfl) (ct_isIn2 (x := 0) (y := 2) (by decide) (by decide) (by omega) (fun hi => absurd hi h) (fun hi => ?_))
  · refine go_if_eq (tgt := 52) dX12_text_14 (by decide) (fun h14 => ?_) (fun h14 => ?_)
    · refine go_iconst (v := iI (-1)) dX12_text_52 (by decide) ?_
      refine go_iret rfl rfl dX12_text_53 ?_
      rw [txt_n h] at hK
      exact hK τ hq.1 hC0
    · exact absurd h14 (by decide)
