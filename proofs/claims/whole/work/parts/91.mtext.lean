/-! the model: text -/
theorem vb_sb : ∀ b, b < 256 → vp_nar .byte (sb b) = sb b := by decide +kernel
theorem MI_lw {σ τ : AS} {X : XS} {L : List CL} {n : Nat} (hC : MI σ X) (hK : XK X) (hn : (xL X).length = n) (h4 : n < 4) (e : ∀ k, k ≠ 111 → k ≠ 113 → k ≠ 114 → τ.1 k = σ.1 k) (f : ∀ j, j ≠ 6 → j ≠ 7 → τ.1 111 j = σ.1 111 j) (h2 : τ.2 = σ.2) (h6 : τ.1 111 6 = iI 0) (h7 : τ.1 111 7 = iI ((n : Int) + 1)) (hl : τ.1 114 n = iI (xt X).length) (hl2 : ∀ j, j ≠ n → τ.1 114 j = σ.1 114 j) (hb : ∀ i c : Nat, (xt X)[i]? = some c → τ.1 113 (240 * n + i) = sb c) (hb2 : ∀ j, j < 240 * n → τ.1 113 j = σ.1 113 j) : MI τ (lwX X L) ∧ FD σ τ := by
  obtain ⟨c1, c2, c3, c4, c5, c6, c7, c8, c9, c10, c11, c12⟩ := hC
  have e' : ∀ k, k = 112 ∨ 115 ≤ k → τ.1 k = σ.1 k := fun k hk => e k (by omega) (by omega) (by omega)
  refine ⟨⟨⟨h6, fun i b hb => by simp [lwX, xt] at hb⟩, ?_, ?_, ?_, ?_, ?_, ⟨?_, ?_, fun k x hx => ?_⟩, fun i hi => ?_, ?_, ?_, ?_, ?_⟩, ⟨fun k hk => e k (by omega) (by omega) (by omega), fun k _ _ => by rw [h2], fun k j _ => by rw [h2]⟩⟩
  · unfold TwM; rw [f 26 (by omega) (by omega), f 27 (by omega) (by omega), e' 116 (by omega), e' 118 (by omega), e' 120 (by omega)]; exact c2
  · rw [e' 124 (by omega)]; exact c3
  · unfold AcM; rw [f 40 (by omega) (by omega), e' 128 (by omega)]; exact c4
  · unfold ImM; rw [f 47 (by omega) (by omega), e' 132 (by omega)]; exact c5
  · unfold MsM; rw [f 45 (by omega) (by omega), e' 129 (by omega), e' 130 (by omega)]; exact c6
  · show τ.1 111 7 = iI ((xL X ++ [(xt X, L)]).length : Nat)
    rw [h7, List.length_append, hn]; rfl
  · rw [f 34 (by omega) (by omega)]; exact c7.2.1
  · have hx : (xL X ++ [(xt X, L)])[k]? = some x := hx
    by_cases c : k < n
    · rw [List.getElem?_append_left (by omega)] at hx
      have h9 := c7.2.2 k x hx
      rw [hl2 k (by omega)]
      refine ⟨h9.1, fun i c hc => ?_⟩
      have hi := (List.getElem?_eq_some_iff.mp hc).1
      have ht := (hK.L.2.2.2 x (List.mem_of_getElem? hx)).1.1
      rw [hb2 _ (by omega)]
      exact h9.2 i c hc
    · have hkl := (List.getElem?_eq_some_iff.mp hx).1
      rw [List.length_append, hn] at hkl
      have hk : k = n := by simp only [List.length_cons, List.length_nil] at hkl; omega
      subst hk
      rw [List.getElem?_append_right (by omega), hn, Nat.sub_self] at hx
      have e1 : (xt X, L) = x := by simpa using hx
      rw [← e1]
      exact ⟨hl, hb⟩
  · rw [h2, e' 127 (by omega)]
    rcases c8 i hi with q | ⟨h, x, ev, q1, q2, q3, q4⟩
    · exact Or.inl q
    · refine Or.inr ⟨h, x, ev, ?_, q2, q3, q4⟩
      show (xL X ++ [(xt X, L)])[h]? = some x
      rw [List.getElem?_append_left (List.getElem?_eq_some_iff.mp q1).1]; exact q1
  · obtain ⟨ev, he⟩ := c9; exact ⟨ev, fun j hj => by rw [e' 115 (by omega)]; exact he j hj⟩
  · unfold PsM PLM; rw [f 30 (by omega) (by omega), e' 122 (by omega), e' 123 (by omega)]; exact c10
  · rw [f 35 (by omega) (by omega)]; exact c11
  · rw [f 36 (by omega) (by omega)]; exact c12
theorem MI_pl {σ τ : AS} {X : XS} {L : List ST} {n : Nat} (hC : MI σ X) (hK : XK X) (hL : LOK L) (hn : (xp X).length = n) (h4 : n < 4) (e : ∀ k, k ≠ 111 → k ≠ 122 → k ≠ 123 → τ.1 k = σ.1 k) (f : ∀ j, j ≠ 6 → j ≠ 30 → τ.1 111 j = σ.1 111 j) (h2 : τ.2 = σ.2) (h6 : τ.1 111 6 = iI 0) (h7 : τ.1 111 30 = iI ((n : Int) + 1)) (hl : τ.1 123 n = iI L.length) (hl2 : ∀ j, j < n → τ.1 123 j = σ.1 123 j) (hb : PLM τ n L) (hb2 : ∀ j, j < 48 * n → τ.1 122 j = σ.1 122 j) : MI τ (plX X L) ∧ FD σ τ := by
  obtain ⟨c1, c2, c3, c4, c5, c6, c7, c8, c9, c10, c11, c12⟩ := hC
  have e' : ∀ k, (112 ≤ k ∧ k < 122) ∨ 124 ≤ k → τ.1 k = σ.1 k := fun k hk => e k (by omega) (by omega) (by omega)
  refine ⟨⟨⟨h6, fun i b hb => by simp [plX, xt] at hb⟩, ?_, ?_, ?_, ?_, ?_, ?_, ?_, ?_, ⟨?_, fun k x hx => ?_⟩, ?_, ?_⟩, ⟨fun k hk => e k (by omega) (by omega) (by omega), fun k _ _ => by rw [h2], fun k j _ => by rw [h2]⟩⟩
  · unfold TwM; rw [f 26 (by omega) (by omega), f 27 (by omega) (by omega), e' 116 (by omega), e' 118 (by omega), e' 120 (by omega)]; exact c2
  · rw [e' 124 (by omega)]; exact c3
  · unfold AcM; rw [f 40 (by omega) (by omega), e' 128 (by omega)]; exact c4
  · unfold ImM; rw [f 47 (by omega) (by omega), e' 132 (by omega)]; exact c5
  · unfold MsM; rw [f 45 (by omega) (by omega), e' 129 (by omega), e' 130 (by omega)]; exact c6
  · unfold LsM; rw [f 7 (by omega) (by omega), f 34 (by omega) (by omega), e' 114 (by omega), e' 113 (by omega)]; exact c7
  · unfold MeM; rw [h2, e' 127 (by omega)]; exact c8
  · obtain ⟨ev, he⟩ := c9; exact ⟨ev, fun j hj => by rw [e' 115 (by omega)]; exact he j hj⟩
  · show τ.1 111 30 = iI ((xp X ++ [L]).length : Nat)
    rw [h7, List.length_append, hn]; rfl
  · have hx : (xp X ++ [L])[k]? = some x := hx
    by_cases c : k < n
    · rw [List.getElem?_append_left (by omega)] at hx
      have h9 := c10.2 k x hx
      rw [hl2 k c]
      refine ⟨fun i y hy => ?_, h9.2⟩
      have hi := (List.getElem?_eq_some_iff.mp hy).1
      have ht := (hK.p.2 x (List.mem_of_getElem? hx)).1
      rw [hb2 _ (by omega), hb2 _ (by omega), hb2 _ (by omega)]
      exact h9.1 i y hy
    · have hkl := (List.getElem?_eq_some_iff.mp hx).1
      rw [List.length_append, hn] at hkl
      have hk : k = n := by simp only [List.length_cons, List.length_nil] at hkl; omega
      subst hk
      rw [List.getElem?_append_right (by omega), hn, Nat.sub_self] at hx
      have e1 : L = x := by simpa using hx
      rw [← e1]
      exact ⟨hb, hl⟩
  · rw [f 35 (by omega) (by omega)]; exact c11
  · rw [f 36 (by omega) (by omega)]; exact c12
theorem tx71 {l : Launch} {D : va_G} {cA ad : Nat → Nat} {d : Nat} {σ : AS} {K : Option Value → AS → Prop} {g : Nat → Int32} {n m : Nat} (hR : RO σ) (hn : n < 4) (hm : m ≤ 240) (h7 : σ.1 111 7 = iI n) (hv : ∀ i, i < m → vp_nar .byte (σ.1 112 i) = σ.1 112 i) (hK : Go l D cA ad d mX12_text 103 [.ref 111, .int (iI 1), .int (iI m), .int (iI m)] [] (sI σ 113 (cpB (σ.1 112) g (240 * n) m)) K) : ∀ i : Nat, i ≤ m → Go l D cA ad d mX12_text 71 [.ref 111, .int (iI 1), .int (iI m), .int (iI i)] [] (sI σ 113 (cpB (σ.1 112) g (240 * n) i)) K := by
  refine up_loop ?_ (fun i hi ih => ?_)
  · refine go_iload_n dX12_text_71 rfl ?_
    refine go_iload_n dX12_text_72 rfl ?_
    refine go_icmp_ge (tgt := 103) dX12_text_73 (by decide) (fun h73 => ?_) (fun h73 => ?_)
    · exact hK
    · exfalso
      rw [iI_le (by omega)] at h73
      omega
  · refine go_iload_n dX12_text_71 rfl ?_
    refine go_iload_n dX12_text_72 rfl ?_
    refine go_icmp_ge (tgt := 103) dX12_text_73 (by decide) (fun h73 => ?_) (fun h73 => ?_)
    · exfalso
      rw [iI_le (by omega)] at h73
      omega
    · refine go_aload_n dX12_text_76 rfl ?_
      refine go_getR fX12_13 dX12_text_77 rfl (hR _ _ _ rfl) ?_
      refine go_sipush (v := iI 240) dX12_text_80 (by decide) ?_
      refine go_aload_n dX12_text_83 rfl ?_
      refine go_getI fX12_286 dX12_text_84 rfl ?_
      rw [sI_ne _ _ _ _ (by decide), h7]
      refine go_imul dX12_text_87 ?_
      refine go_iload_n dX12_text_88 rfl ?_
      refine go_iadd dX12_text_89 ?_
      rw [iI_mul, iI_add, show 240 * (n : Int) + (i : Int) = ((240 * n + i : Nat) : Int) by omega]
      refine go_aload_n dX12_text_90 rfl ?_
      refine go_getR fX12_9 dX12_text_91 rfl (hR _ _ _ rfl) ?_
      refine go_iload_n dX12_text_94 rfl ?_
      refine go_bald dX12_text_95 rfl (vp_iI (by omega)) ?_
      rw [cl_n _ (by omega), sI_ne _ _ _ _ (by decide)]
      refine go_bast dX12_text_96 rfl (vp_iI (by omega)) ?_
      rw [cl_n _ (by omega), sI_same, sI_sI, hv i hi, cpB_s]
      refine go_iincI dX12_text_97 rfl (Nat.le_of_ble_eq_true rfl) rfl ?_
      refine go_goto (tgt := 71) dX12_text_100 (by decide) ?_
      simp only [List.set, iI_add]
      exact ih

theorem tx103 {l : Launch} {D : va_G} {cA ad : Nat → Nat} {d : Nat} {σ : AS} {K : Option Value → AS → Prop} {n : Nat} {m : Int32} {v : Value} (hR : RO σ) (hn : n < 4) (h7 : σ.1 111 7 = iI n) (hK : K (some (.int (iI n))) (sI (sI σ 114 (upd (σ.1 114) n m)) 111 (upd (σ.1 111) 7 (iI ((n : Int) + 1))))) : Go l D cA ad d mX12_text 103 [.ref 111, .int (iI 1), .int m, v] [] σ K := by
  refine go_aload_n dX12_text_103 rfl ?_
  refine go_getR fX12_16 dX12_text_104 rfl (hR _ _ _ rfl) ?_
  refine go_aload_n dX12_text_107 rfl ?_
  refine go_getI fX12_286 dX12_text_108 rfl ?_
  rw [h7]
  refine go_iload_n dX12_text_111 rfl ?_
  refine go_iast dX12_text_112 rfl (vp_iI (by omega)) ?_
  rw [cl_n _ (by omega)]
  refine go_aload_n dX12_text_113 rfl ?_
  refine go_dup dX12_text_114 rfl ?_
  refine go_getI fX12_286 dX12_text_115 rfl ?_
  rw [sI_ne _ _ _ _ (by decide), h7]
  refine go_iconst (v := iI 1) dX12_text_118 (by decide) ?_
  refine go_iadd dX12_text_119 ?_
  rw [iI_add]
  refine go_putI fX12_286 rfl dX12_text_120 rfl rfl rfl ?_
  rw [sI_ne _ _ _ _ (by decide)]
  refine go_aload_n dX12_text_123 rfl ?_
  refine go_getI fX12_286 dX12_text_124 rfl ?_
  rw [sI_same, upd_same]
  refine go_iconst (v := iI 1) dX12_text_127 (by decide) ?_
  refine go_isub dX12_text_128 ?_
  rw [iI_sub, show (n : Int) + 1 - 1 = n by omega]
  refine go_iret rfl rfl dX12_text_129 ?_
  exact hK
theorem twS_le {t : List Nat} : ∀ (n a : Nat) (s : PS), a ≤ t.length → (twS t n a s).1 ≤ t.length
  | 0, a, s, h => h
  | n + 1, a, s, h => by
    have hc := clS_le (s := s) h
    cases e : clS t a s with
    | mk q1 p =>
      obtain ⟨b, s1⟩ := p
      rw [e] at hc
      cases b with
      | false => rw [twS_f e]; exact hc
      | true =>
        by_cases h1 : ch t q1 = -1
        · rw [twS_e e h1]; exact hc
        · by_cases h2 : ch t q1 = 59
          · rw [twS_n e h2]; exact twS_le n _ _ (lt_of_ch h2 (by decide))
          · rw [twS_x e h1 h2]; exact hc
theorem plS_le {t : List Nat} : ∀ (n a : Nat) (L : List ST), a ≤ t.length → (plS t n a L).1 ≤ t.length
  | 0, a, L, h => h
  | n + 1, a, L, h => by
    have hc := stepS_le h
    cases e : stepS t a with
    | mk q1 r =>
      rw [e] at hc
      dsimp only at hc
      have hs := sk_le hc
      cases r with
      | none => rw [plS_f e]; exact hc
      | some x =>
        unfold plS
        rw [e]
        dsimp only
        split
        · exact hs
        · split
          · rename_i q; exact plS_le n _ _ (lt_of_ch q.1 (by decide))
          · exact hs
theorem lwS_le {t : List Nat} : ∀ (n a : Nat) (L : List CL), a ≤ t.length → (lwS t n a L).1 ≤ t.length
  | 0, a, L, h => h
  | n + 1, a, L, h => by
    have hc := (clC_gd h).1
    cases e : clC t a with
    | mk q1 r =>
      rw [e] at hc
      dsimp only at hc
      have hs := sk_le hc
      cases r with
      | none => rw [lwS_f e]; exact hc
      | some x =>
        by_cases h1 : ch t (sk t q1) = -1
        · rw [lwS_e e h1]; exact hs
        · by_cases h2 : ch t (sk t q1) = 59
          · rw [lwS_n e h2]; exact lwS_le n _ _ (lt_of_ch h2 (by decide))
          · rw [lwS_x e h1 h2]; exact hs
theorem rdlen0 {t : List Nat} {q : Nat} {r : Option PS} (e : twS t 242 0 ps0 = (q, r)) : q ≤ t.length := by have := twS_le (t := t) 242 0 ps0 (Nat.zero_le _); rw [e] at this; exact this
theorem rdlen1 {t : List Nat} {q : Nat} {r : Option (List CL)} (e : lwS t 242 0 [] = (q, r)) : q ≤ t.length := by have := lwS_le (t := t) 242 0 [] (Nat.zero_le _); rw [e] at this; exact this
theorem rdlen2 {t : List Nat} {q : Nat} {r : Option (List ST)} (e : plS t 17 0 [] = (q, r)) : q ≤ t.length := by have := plS_le (t := t) 17 0 [] (Nat.zero_le _); rw [e] at this; exact this
theorem ct_mtext1 {l : Launch} {D : va_G} {cA ad : Nat → Nat} {d : Nat} {σ : AS} {K : Option Value → AS → Prop} {X : XS} (hR : RO σ) (hK0 : XK X) (hC : MI σ X) (hK : ∀ τ, FD σ τ → MI τ (txt2 X 1).1 → K (some (.int (iI (txt2 X 1).2))) τ) : Call l D cA ad (d + 33) mX12_text [.ref 111, .int (iI 1)] σ K := by
  have h4 := hK0.L.1
  refine call_go (by decide) (Nat.le_of_ble_eq_true rfl) (show Go l D cA ad (d + 33) mX12_text 0 [.ref 111, .int (iI 1), .null, .null] [] σ K from ?_)
  refine go_aload_n dX12_text_0 rfl ?_
  refine go_iconst (v := iI 0) dX12_text_1 (by decide) ?_
  refine go_putI fX12_96 rfl dX12_text_2 rfl rfl rfl ?_
  have hq : DF (xL X) σ (sI σ 111 (upd (σ.1 111) 0 (iI 0))) := DF_f0 DF.rf
  have hR0 := hq.RO hR
  have hC0 := hC.q hK0 hq
  generalize sI σ 111 (upd (σ.1 111) 0 (iI 0)) = τ at hq hR0 hC0 ⊢
  refine go_iload_n dX12_text_5 rfl ?_
  refine go_i2l dX12_text_6 ?_
  rw [i2l_iI (by decide)]
  refine go_lconst (v := 0) dX12_text_7 (by decide) ?_
  refine go_ldc2 lX12_275 dX12_text_8 ?_
  refine go_callS (as := [_, _, _]) wX12_217 dX12_text_11 rfl rfl (Nat.le_of_ble_eq_true rfl) (ct_isIn2 (x := 0) (y := 2) (by decide) (by decide) (by decide) (fun hi => ?_) (fun hi => absurd (by decide) hi))
  · refine go_if_eq (tgt := 52) dX12_text_14 (by decide) (fun h14 => ?_) (fun h14 => ?_)
    · exact absurd h14 (by decide)
    · refine go_iload_n dX12_text_17 rfl ?_
      refine go_iconst (v := iI 1) dX12_text_18 (by decide) ?_
      refine go_icmp_ne (tgt := 30) dX12_text_19 (by decide) (fun h19 => ?_) (fun h19 => ?_)
      · exact absurd h19 (by decide)
      · refine go_aload_n dX12_text_22 rfl ?_
        refine go_getI fX12_286 dX12_text_23 rfl ?_
        refine go_iconst (v := iI 4) dX12_text_26 (by decide) ?_
        refine go_icmp_eq (tgt := 52) dX12_text_27 (by decide) (fun h27 => ?_) (fun h27 => ?_)
        · rw [hC0.2.2.2.2.2.2.1.1, iI_eq (by omega)] at h27
          refine go_iconst (v := iI (-1)) dX12_text_52 (by decide) ?_
          refine go_iret rfl rfl dX12_text_53 ?_
          rw [txt_1, lw2_f (by omega)] at hK
          exact hK τ hq.1 hC0
        · rw [hC0.2.2.2.2.2.2.1.1, iI_eq (by omega)] at h27
          refine go_iload_n dX12_text_30 rfl ?_
          refine go_iconst (v := iI 2) dX12_text_31 (by decide) ?_
          refine go_icmp_ne (tgt := 43) dX12_text_32 (by decide) (fun h32 => ?_) (fun h32 => ?_)
          · refine go_aload_n dX12_text_43 rfl ?_
            refine go_iload_n dX12_text_44 rfl ?_
            refine go_callV (as := [_]) wX12_292 dX12_text_45 rfl rfl rfl rfl (Nat.le_of_ble_eq_true rfl) (ct_mfault1 hR0 hK0 hC0 (fun ρ hq2 hrd => ?_))
            have hR1 := hq2.RO hR0
            have hC1 := hC0.q hK0 hq2
            refine go_iconst (v := iI (-1)) dX12_text_48 (by decide) ?_
            refine go_icmp_eq (tgt := 54) dX12_text_49 (by decide) (fun h49 => ?_) (fun h49 => ?_)
            · have ef : fltA X 1 = ff (lwS (xt X) 242 0 []) := by unfold fltA; rw [if_neg (by decide), if_pos rfl]
              obtain ⟨q, r, e⟩ : ∃ q r, lwS (xt X) 242 0 [] = (q, some r) := by
                cases e : lwS (xt X) 242 0 [] with
                | mk q r =>
                  cases r with
                  | some r => exact ⟨q, r, rfl⟩
                  | none =>
                    exfalso
                    rw [ef, ff_n e, iI_eq (by have := rdlen1 e; have := hK0.t.1; omega)] at h49
                    omega
              refine go_aload_n dX12_text_54 rfl ?_
              refine go_getI fX12_109 dX12_text_55 rfl ?_
              rw [hC1.1.1]
              refine go_istore_n dX12_text_58 (Nat.le_of_ble_eq_true rfl) rfl ?_
              refine go_aload_n dX12_text_59 rfl ?_
              refine go_iconst (v := iI 0) dX12_text_60 (by decide) ?_
              refine go_putI fX12_109 rfl dX12_text_61 rfl rfl rfl ?_
              refine go_iload_n dX12_text_64 rfl ?_
              refine go_iconst (v := iI 1) dX12_text_65 (by decide) ?_
              refine go_icmp_ne (tgt := 130) dX12_text_66 (by decide) (fun h66 => ?_) (fun h66 => ?_)
              · exact absurd h66 (by decide)
              · refine go_iconst (v := iI 0) dX12_text_69 (by decide) ?_
                refine go_istore_n dX12_text_70 (Nat.le_of_ble_eq_true rfl) rfl ?_
                simp only [List.set]
                generalize hnn : (xL X).length = n at h27
                have hb6 : ∀ b, b ∈ xt X → b < 256 := fun b hb => by have := hK0.t.2 b hb; omega
                have ht := hK0.t.1
                have e7 : (sI ρ 111 (upd (ρ.1 111) 6 (iI 0))).1 111 7 = iI n := by rw [sI_same, upd_ne _ _ _ _ (by decide), ← hnn]; exact hC1.2.2.2.2.2.2.1.1
                have eR : RO (sI ρ 111 (upd (ρ.1 111) 6 (iI 0))) := hR1
                have ek : ∀ k, k ≠ 111 → (sI ρ 111 (upd (ρ.1 111) 6 (iI 0))).1 k = ρ.1 k := fun k hk => sI_ne _ _ _ _ hk
                have ef6 : (sI ρ 111 (upd (ρ.1 111) 6 (iI 0))).1 111 6 = iI 0 := by rw [sI_same, upd_same]
                have efn : ∀ j, j ≠ 6 → (sI ρ 111 (upd (ρ.1 111) 6 (iI 0))).1 111 j = ρ.1 111 j := fun j hj => by rw [sI_same, upd_ne _ _ _ _ hj]
                have e2 : (sI ρ 111 (upd (ρ.1 111) 6 (iI 0))).2 = ρ.2 := rfl
                generalize sI ρ 111 (upd (ρ.1 111) 6 (iI 0)) = ψ at e7 eR ek ef6 efn e2 ⊢
                have hrd : ∀ i, i < (xt X).length → ∃ c, (xt X)[i]? = some c ∧ ψ.1 112 i = sb c ∧ c < 256 := fun i hi => by
                  obtain ⟨c, hc⟩ : ∃ c, (xt X)[i]? = some c := ⟨_, List.getElem?_eq_getElem hi⟩
                  exact ⟨c, hc, by rw [ek 112 (by decide)]; exact hC1.1.2 i c hc, hb6 c (List.mem_of_getElem? hc)⟩
                have h9 := tx71 (l := l) (D := D) (cA := cA) (ad := ad) (d := (d + 33)) (σ := ψ) (K := K) (g := ψ.1 113) (n := n) (m := (xt X).length) eR (by omega) ht e7 (fun i hi => by obtain ⟨c, _, h2, h3⟩ := hrd i hi; rw [h2]; exact vb_sb c h3) ?_ 0 (by omega)
                · rw [cpB_0, sI_self] at h9
                  exact h9
                refine tx103 (n := n) eR (by omega) (by rw [sI_ne _ _ _ _ (by decide)]; exact e7) ?_
                rw [txt_1, e, lw2_y (by omega), hnn] at hK
                have hfin := MI_lw (L := r) (n := n) (τ := sI (sI (sI ψ 113 (cpB (ψ.1 112) (ψ.1 113) (240 * n) (xt X).length)) 114 (upd ((sI ψ 113 (cpB (ψ.1 112) (ψ.1 113) (240 * n) (xt X).length)).1 114) n (iI ((xt X).length : Nat)))) 111 (upd ((sI ψ 113 (cpB (ψ.1 112) (ψ.1 113) (240 * n) (xt X).length)).1 111) 7 (iI ((n : Int) + 1)))) hC1 hK0 hnn (by omega) (fun k h1 h2 h3 => by rw [sI_ne _ _ _ _ h1, sI_ne _ _ _ _ h3, sI_ne _ _ _ _ h2]; exact ek k h1) (fun j h1 h2 => by rw [sI_same, upd_ne _ _ _ _ h2, sI_ne _ _ _ _ (by decide)]; exact efn j h1) e2 (by rw [sI_same, upd_ne _ _ _ _ (by decide), sI_ne _ _ _ _ (by decide)]; exact ef6) (by rw [sI_same, upd_same]) (by rw [sI_ne _ _ _ _ (by decide), sI_same, upd_same]) (fun j hj => by rw [sI_ne _ _ _ _ (by decide), sI_same, upd_ne _ _ _ _ hj, sI_ne _ _ _ _ (by decide), ek 114 (by decide)]) (fun i c hc => ?_) (fun j hj => ?_)
                · exact hK _ ((hq.tr hq2).1.tr hfin.2) hfin.1
                · have hi := (List.getElem?_eq_some_iff.mp hc).1
                  rw [sI_ne _ _ _ _ (by decide), sI_ne _ _ _ _ (by decide), sI_same]
                  unfold cpB
                  rw [if_pos (by omega), show 240 * n + i - 240 * n = i by omega, ek 112 (by decide)]
                  exact hC1.1.2 i c hc
                · rw [sI_ne _ _ _ _ (by decide), sI_ne _ _ _ _ (by decide), sI_same]
                  unfold cpB
                  rw [if_neg (by omega), ek 113 (by decide)]
            · have ef : fltA X 1 = ff (lwS (xt X) 242 0 []) := by unfold fltA; rw [if_neg (by decide), if_pos rfl]
              obtain ⟨q, e⟩ : ∃ q, lwS (xt X) 242 0 [] = (q, none) := by
                cases e : lwS (xt X) 242 0 [] with
                | mk q r =>
                  cases r with
                  | none => exact ⟨q, rfl⟩
                  | some r =>
                    exfalso
                    rw [ef, ff_s e] at h49
                    exact h49 rfl
              refine go_iconst (v := iI (-1)) dX12_text_52 (by decide) ?_
              refine go_iret rfl rfl dX12_text_53 ?_
              rw [txt_1, e] at hK
              exact hK ρ (hq.tr hq2).1 hC1
          · exact absurd h32 (by decide)

def cpC (f : Nat → Int32) (b k : Nat) : Nat → Int32 := fun j => if b ≤ j ∧ j < b + k then f (192 + (j - b)) else f j
theorem cpC_s (f : Nat → Int32) (b k : Nat) (h : b + k ≤ 192) : upd (cpC f b k) (b + k) (cpC f b k (192 + k)) = cpC f b (k + 1) := by
  funext j
  by_cases hj : j = b + k
  · subst hj; rw [upd_same]; unfold cpC; rw [if_neg (by omega), if_pos (by omega), show b + k - b = k by omega]
  · rw [upd_ne _ _ _ _ hj]; unfold cpC
    by_cases c : b ≤ j ∧ j < b + k
    · rw [if_pos c, if_pos (by omega)]
    · rw [if_neg c, if_neg (by omega)]
theorem cpC_0 (f : Nat → Int32) (b : Nat) : cpC f b 0 = f := by funext j; unfold cpC; rw [if_neg (by omega)]
theorem tx137 {l : Launch} {D : va_G} {cA ad : Nat → Nat} {d : Nat} {σ : AS} {K : Option Value → AS → Prop} {f : Nat → Int32} {n : Nat} {v2 : Int32} (hR : RO σ) (hn : n < 4) (h7 : σ.1 111 30 = iI n) (hK : Go l D cA ad d mX12_text 173 [.ref 111, .int (iI 2), .int v2, .int (iI 48)] [] (sI σ 122 (cpC f (48 * n) 48)) K) : ∀ i : Nat, i ≤ 48 → Go l D cA ad d mX12_text 137 [.ref 111, .int (iI 2), .int v2, .int (iI i)] [] (sI σ 122 (cpC f (48 * n) i)) K := by
  refine up_loop ?_ (fun i hi ih => ?_)
  · refine go_iload_n dX12_text_137 rfl ?_
    refine go_bipush (v := iI 48) dX12_text_138 (by decide) ?_
    refine go_icmp_ge (tgt := 173) dX12_text_140 (by decide) (fun h140 => ?_) (fun h140 => ?_)
    · exact hK
    · exact absurd (by decide) h140
  · refine go_iload_n dX12_text_137 rfl ?_
    refine go_bipush (v := iI 48) dX12_text_138 (by decide) ?_
    refine go_icmp_ge (tgt := 173) dX12_text_140 (by decide) (fun h140 => ?_) (fun h140 => ?_)
    · exfalso
      rw [iI_le (by omega)] at h140
      omega
    · refine go_aload_n dX12_text_143 rfl ?_
      refine go_getR fX12_55 dX12_text_144 rfl (hR _ _ _ rfl) ?_
      refine go_bipush (v := iI 48) dX12_text_147 (by decide) ?_
      refine go_aload_n dX12_text_149 rfl ?_
      refine go_getI fX12_289 dX12_text_150 rfl ?_
      rw [sI_ne _ _ _ _ (by decide), h7]
      refine go_imul dX12_text_153 ?_
      refine go_iload_n dX12_text_154 rfl ?_
      refine go_iadd dX12_text_155 ?_
      rw [iI_mul, iI_add, show 48 * (n : Int) + (i : Int) = ((48 * n + i : Nat) : Int) by omega]
      refine go_aload_n dX12_text_156 rfl ?_
      refine go_getR fX12_55 dX12_text_157 rfl (hR _ _ _ rfl) ?_
      refine go_sipush (v := iI 192) dX12_text_160 (by decide) ?_
      refine go_iload_n dX12_text_163 rfl ?_
      refine go_iadd dX12_text_164 ?_
      rw [iI_add, show 192 + (i : Int) = ((192 + i : Nat) : Int) by omega]
      refine go_iald dX12_text_165 rfl (vp_iI (by omega)) ?_
      rw [cl_n _ (by omega), sI_same]
      refine go_iast dX12_text_166 rfl (vp_iI (by omega)) ?_
      rw [cl_n _ (by omega), sI_same, sI_sI, cpC_s _ _ _ (by omega)]
      refine go_iincI dX12_text_167 rfl (Nat.le_of_ble_eq_true rfl) rfl ?_
      refine go_goto (tgt := 137) dX12_text_170 (by decide) ?_
      simp only [List.set, iI_add]
      exact ih

theorem tx173 {l : Launch} {D : va_G} {cA ad : Nat → Nat} {d : Nat} {σ : AS} {K : Option Value → AS → Prop} {n : Nat} {v2 v : Value} (hR : RO σ) (hn : n < 4) (h7 : σ.1 111 30 = iI n) (hK : K (some (.int (iI n))) (sI (sI σ 123 (upd (σ.1 123) n (σ.1 123 4))) 111 (upd (σ.1 111) 30 (iI ((n : Int) + 1))))) : Go l D cA ad d mX12_text 173 [.ref 111, .int (iI 2), v2, v] [] σ K := by
  refine go_aload_n dX12_text_173 rfl ?_
  refine go_getR fX12_58 dX12_text_174 rfl (hR _ _ _ rfl) ?_
  refine go_aload_n dX12_text_177 rfl ?_
  refine go_getI fX12_289 dX12_text_178 rfl ?_
  rw [h7]
  refine go_aload_n dX12_text_181 rfl ?_
  refine go_getR fX12_58 dX12_text_182 rfl (hR _ _ _ rfl) ?_
  refine go_iconst (v := iI 4) dX12_text_185 (by decide) ?_
  refine go_iald dX12_text_186 rfl (vp_iI (by decide)) ?_
  rw [show (iI 4).toNatClampNeg = 4 by decide]
  refine go_iast dX12_text_187 rfl (vp_iI (by omega)) ?_
  rw [cl_n _ (by omega)]
  refine go_aload_n dX12_text_188 rfl ?_
  refine go_dup dX12_text_189 rfl ?_
  refine go_getI fX12_289 dX12_text_190 rfl ?_
  rw [sI_ne _ _ _ _ (by decide), h7]
  refine go_iconst (v := iI 1) dX12_text_193 (by decide) ?_
  refine go_iadd dX12_text_194 ?_
  rw [iI_add]
  refine go_putI fX12_289 rfl dX12_text_195 rfl rfl rfl ?_
  rw [sI_ne _ _ _ _ (by decide)]
  refine go_aload_n dX12_text_198 rfl ?_
  refine go_getI fX12_289 dX12_text_199 rfl ?_
  rw [sI_same, upd_same]
  refine go_iconst (v := iI 1) dX12_text_202 (by decide) ?_
  refine go_isub dX12_text_203 ?_
  rw [iI_sub, show (n : Int) + 1 - 1 = n by omega]
  refine go_iret rfl rfl dX12_text_204 ?_
  exact hK
theorem ct_mtext2 {l : Launch} {D : va_G} {cA ad : Nat → Nat} {d : Nat} {σ : AS} {K : Option Value → AS → Prop} {X : XS} (hR : RO σ) (hK0 : XK X) (hC : MI σ X) (hK : ∀ τ, FD σ τ → MI τ (txt2 X 2).1 → K (some (.int (iI (txt2 X 2).2))) τ) : Call l D cA ad (d + 33) mX12_text [.ref 111, .int (iI 2)] σ K := by
  have h4 := hK0.p.1
  refine call_go (by decide) (Nat.le_of_ble_eq_true rfl) (show Go l D cA ad (d + 33) mX12_text 0 [.ref 111, .int (iI 2), .null, .null] [] σ K from ?_)
  refine go_aload_n dX12_text_0 rfl ?_
  refine go_iconst (v := iI 0) dX12_text_1 (by decide) ?_
  refine go_putI fX12_96 rfl dX12_text_2 rfl rfl rfl ?_
  have hq : DF (xL X) σ (sI σ 111 (upd (σ.1 111) 0 (iI 0))) := DF_f0 DF.rf
  have hR0 := hq.RO hR
  have hC0 := hC.q hK0 hq
  generalize sI σ 111 (upd (σ.1 111) 0 (iI 0)) = τ at hq hR0 hC0 ⊢
  refine go_iload_n dX12_text_5 rfl ?_
  refine go_i2l dX12_text_6 ?_
  rw [i2l_iI (by decide)]
  refine go_lconst (v := 0) dX12_text_7 (by decide) ?_
  refine go_ldc2 lX12_275 dX12_text_8 ?_
  refine go_callS (as := [_, _, _]) wX12_217 dX12_text_11 rfl rfl (Nat.le_of_ble_eq_true rfl) (ct_isIn2 (x := 0) (y := 2) (by decide) (by decide) (by decide) (fun hi => ?_) (fun hi => absurd (by decide) hi))
  · refine go_if_eq (tgt := 52) dX12_text_14 (by decide) (fun h14 => ?_) (fun h14 => ?_)
    · exact absurd h14 (by decide)
    · refine go_iload_n dX12_text_17 rfl ?_
      refine go_iconst (v := iI 1) dX12_text_18 (by decide) ?_
      refine go_icmp_ne (tgt := 30) dX12_text_19 (by decide) (fun h19 => ?_) (fun h19 => ?_)
      · refine go_iload_n dX12_text_30 rfl ?_
        refine go_iconst (v := iI 2) dX12_text_31 (by decide) ?_
        refine go_icmp_ne (tgt := 43) dX12_text_32 (by decide) (fun h32 => ?_) (fun h32 => ?_)
        · exact absurd h32 (by decide)
        · refine go_aload_n dX12_text_35 rfl ?_
          refine go_getI fX12_289 dX12_text_36 rfl ?_
          refine go_iconst (v := iI 4) dX12_text_39 (by decide) ?_
          refine go_icmp_eq (tgt := 52) dX12_text_40 (by decide) (fun h40 => ?_) (fun h40 => ?_)
          · rw [hC0.2.2.2.2.2.2.2.2.2.1.1, iI_eq (by omega)] at h40
            refine go_iconst (v := iI (-1)) dX12_text_52 (by decide) ?_
            refine go_iret rfl rfl dX12_text_53 ?_
            rw [txt_2, pl2_f (by omega)] at hK
            exact hK τ hq.1 hC0
          · rw [hC0.2.2.2.2.2.2.2.2.2.1.1, iI_eq (by omega)] at h40
            refine go_aload_n dX12_text_43 rfl ?_
            refine go_iload_n dX12_text_44 rfl ?_
            refine go_callV (as := [_]) wX12_292 dX12_text_45 rfl rfl rfl rfl (Nat.le_of_ble_eq_true rfl) (ct_mfault2 hR0 hK0 hC0 (fun ρ hq2 hrd => ?_))
            have hR1 := hq2.RO hR0
            have hC1 := hC0.q hK0 hq2
            refine go_iconst (v := iI (-1)) dX12_text_48 (by decide) ?_
            refine go_icmp_eq (tgt := 54) dX12_text_49 (by decide) (fun h49 => ?_) (fun h49 => ?_)
            · have ef : fltA X 2 = ff (plS (xt X) 17 0 []) := by unfold fltA; rw [if_neg (by decide), if_neg (by decide), if_pos rfl]
              obtain ⟨q, r, e⟩ : ∃ q r, plS (xt X) 17 0 [] = (q, some r) := by
                cases e : plS (xt X) 17 0 [] with
                | mk q r =>
                  cases r with
                  | some r => exact ⟨q, r, rfl⟩
                  | none =>
                    exfalso
                    rw [ef, ff_n e, iI_eq (by have := rdlen2 e; have := hK0.t.1; omega)] at h49
                    omega
              refine go_aload_n dX12_text_54 rfl ?_
              refine go_getI fX12_109 dX12_text_55 rfl ?_
              rw [hC1.1.1]
              refine go_istore_n dX12_text_58 (Nat.le_of_ble_eq_true rfl) rfl ?_
              refine go_aload_n dX12_text_59 rfl ?_
              refine go_iconst (v := iI 0) dX12_text_60 (by decide) ?_
              refine go_putI fX12_109 rfl dX12_text_61 rfl rfl rfl ?_
              refine go_iload_n dX12_text_64 rfl ?_
              refine go_iconst (v := iI 1) dX12_text_65 (by decide) ?_
              refine go_icmp_ne (tgt := 130) dX12_text_66 (by decide) (fun h66 => ?_) (fun h66 => ?_)
              · refine go_iload_n dX12_text_130 rfl ?_
                refine go_iconst (v := iI 2) dX12_text_131 (by decide) ?_
                refine go_icmp_ne (tgt := 205) dX12_text_132 (by decide) (fun h132 => ?_) (fun h132 => ?_)
                · exact absurd h132 (by decide)
                · refine go_iconst (v := iI 0) dX12_text_135 (by decide) ?_
                  refine go_istore_n dX12_text_136 (Nat.le_of_ble_eq_true rfl) rfl ?_
                  simp only [List.set]
                  generalize hnn : (xp X).length = n at h40
                  obtain ⟨hpm, hlen, hLk⟩ := hrd.2 rfl q r e
                  have hl16 := hLk.1
                  have e7 : (sI ρ 111 (upd (ρ.1 111) 6 (iI 0))).1 111 30 = iI n := by rw [sI_same, upd_ne _ _ _ _ (by decide), ← hnn]; exact hC1.2.2.2.2.2.2.2.2.2.1.1
                  have eR : RO (sI ρ 111 (upd (ρ.1 111) 6 (iI 0))) := hR1
                  have ek : ∀ k, k ≠ 111 → (sI ρ 111 (upd (ρ.1 111) 6 (iI 0))).1 k = ρ.1 k := fun k hk => sI_ne _ _ _ _ hk
                  have ef6 : (sI ρ 111 (upd (ρ.1 111) 6 (iI 0))).1 111 6 = iI 0 := by rw [sI_same, upd_same]
                  have efn : ∀ j, j ≠ 6 → (sI ρ 111 (upd (ρ.1 111) 6 (iI 0))).1 111 j = ρ.1 111 j := fun j hj => by rw [sI_same, upd_ne _ _ _ _ hj]
                  have e2 : (sI ρ 111 (upd (ρ.1 111) 6 (iI 0))).2 = ρ.2 := rfl
                  generalize sI ρ 111 (upd (ρ.1 111) 6 (iI 0)) = ψ at e7 eR ek ef6 efn e2 ⊢
                  have h9 := tx137 (l := l) (D := D) (cA := cA) (ad := ad) (d := (d + 33)) (σ := ψ) (K := K) (f := ψ.1 122) (n := n) (v2 := iI ((xt X).length : Nat)) eR (by omega) e7 ?_ 0 (by omega)
                  · rw [cpC_0, sI_self] at h9
                    exact h9
                  refine tx173 (n := n) eR (by omega) (by rw [sI_ne _ _ _ _ (by decide)]; exact e7) ?_
                  rw [txt_2, e, pl2_y (by omega), hnn] at hK
                  have hfin := MI_pl (L := r) (n := n) (τ := sI (sI (sI ψ 122 (cpC (ψ.1 122) (48 * n) 48)) 123 (upd ((sI ψ 122 (cpC (ψ.1 122) (48 * n) 48)).1 123) n ((sI ψ 122 (cpC (ψ.1 122) (48 * n) 48)).1 123 4))) 111 (upd ((sI ψ 122 (cpC (ψ.1 122) (48 * n) 48)).1 111) 30 (iI ((n : Int) + 1)))) hC1 hK0 hLk hnn (by omega) (fun k h1 h2 h3 => by rw [sI_ne _ _ _ _ h1, sI_ne _ _ _ _ h3, sI_ne _ _ _ _ h2]; exact ek k h1) (fun j h1 h2 => by rw [sI_same, upd_ne _ _ _ _ h2, sI_ne _ _ _ _ (by decide)]; exact efn j h1) e2 (by rw [sI_same, upd_ne _ _ _ _ (by decide), sI_ne _ _ _ _ (by decide)]; exact ef6) (by rw [sI_same, upd_same]) (by rw [sI_ne _ _ _ _ (by decide), sI_same, upd_same, sI_ne _ _ _ _ (by decide), ek 123 (by decide)]; exact hlen) (fun j hj => by rw [sI_ne _ _ _ _ (by decide), sI_same, upd_ne _ _ _ _ (by omega), sI_ne _ _ _ _ (by decide), ek 123 (by decide)]) (fun i x hx => ?_) (fun j hj => ?_)
                  · exact hK _ ((hq.tr hq2).1.tr hfin.2) hfin.1
                  · have hi := (List.getElem?_eq_some_iff.mp hx).1
                    have hp := hpm i x hx
                    rw [sI_ne _ _ _ _ (by decide), sI_ne _ _ _ _ (by decide), sI_same]
                    unfold cpC
                    rw [if_pos (by omega), if_pos (by omega), if_pos (by omega), ek 122 (by decide), show 192 + (3 * (16 * n + i) - 48 * n) = 3 * (16 * 4 + i) by omega, show 192 + (3 * (16 * n + i) + 1 - 48 * n) = 3 * (16 * 4 + i) + 1 by omega, show 192 + (3 * (16 * n + i) + 2 - 48 * n) = 3 * (16 * 4 + i) + 2 by omega]
                    exact hp
                  · rw [sI_ne _ _ _ _ (by decide), sI_ne _ _ _ _ (by decide), sI_same]
                    unfold cpC
                    rw [if_neg (by omega), ek 122 (by decide)]
              · exact absurd h66 (by decide)
            · have ef : fltA X 2 = ff (plS (xt X) 17 0 []) := by unfold fltA; rw [if_neg (by decide), if_neg (by decide), if_pos rfl]
              obtain ⟨q, e⟩ : ∃ q, plS (xt X) 17 0 [] = (q, none) := by
                cases e : plS (xt X) 17 0 [] with
                | mk q r =>
                  cases r with
                  | none => exact ⟨q, rfl⟩
                  | some r =>
                    exfalso
                    rw [ef, ff_s e] at h49
                    exact h49 rfl
              refine go_iconst (v := iI (-1)) dX12_text_52 (by decide) ?_
              refine go_iret rfl rfl dX12_text_53 ?_
              rw [txt_2, e] at hK
              exact hK ρ (hq.tr hq2).1 hC1
      · exact absurd h19 (by decide)

