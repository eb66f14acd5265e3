/-! a day -/
def moveF (f : Nat → Int) (a b : Nat) (v : Int) : Nat → Int := fun i => if i = a then f a - v else if i = b then f b + v else f i
def swimF (f : Nat → Int) (a b : Nat) (m : Int) : Nat → Int := if 0 < f a ∧ f b < m then moveF f a b 1 else f
def carryF (s : PS) (hv : Option (List CL)) (w : WT) (k : Nat) : WT := if flF s hv w k = 0 then w else (moveF (wa w) (hiE s w k) (loE s w k) (flF s hv w k), swimF (ca w) (hiE s w k) (loE s w k) 99, swimF (pk w) (hiE s w k) (loE s w k) 9, w.2.2.2)
def bitb (m k : Nat) : Bool := m / 2 ^ k % 2 == 1
def flwF (s : PS) (hv : Option (List CL)) : Nat → Nat → WT → WT
  | 0, _, w => w
  | n + 1, k, w => flwF s hv n (k + 1) (if bitb (opn w) k = true then carryF s hv w k else w)
def setF (f : Nat → Int) (p : Nat) (v : Int) : Nat → Int := fun i => if i = p then v else f i
def weaF (s : PS) (rain : Int) (p : Nat) (w : WT) : WT := (setF (wa w) p (mx 0 (mn (wa w p + rain) (pd s p 1) - skv s 1 - pd s p 4)), ca w, pk w, opn w, ovr w + (wa w p + rain - mn (wa w p + rain) (pd s p 1)), dy w)
def wesF (s : PS) (rain : Int) : Nat → Nat → WT → WT
  | 0, _, w => w
  | n + 1, k, w => wesF s rain n (k + 1) (weaF s rain k w)
def livF (s : PS) (p : Nat) (w : WT) : WT :=
  if wa w p = 0 then (wa w, setF (ca w) p 0, setF (pk w) p 0, w.2.2.2)
  else (wa w, setF (ca w) p (if skv s 2 ≤ wa w p then mn 99 (mx 0 (ca w p - 2 * pk w p) + mx 0 (ca w p - 2 * pk w p) / 4) else mx 0 (ca w p - 2 * pk w p)), setF (pk w) p (if ca w p < pk w p then pk w p - 1 else pk w p), w.2.2.2)
def lvsF (s : PS) : Nat → Nat → WT → WT
  | 0, _, w => w
  | n + 1, k, w => lvsF s n (k + 1) (livF s k w)
def nxtD (w : WT) : WT := (wa w, ca w, pk w, opn w, ovr w, dy w + 1)
def dayF (s : PS) (hv : Option (List CL)) (rain : Int) (w : WT) : WT := nxtD (lvsF s (nP s) 0 (wesF s rain (nP s) 0 (flwF s hv (nQ s) 0 w)))
theorem move_ok {f : Nat → Int} {a b i : Nat} {v : Int} {r : Nat → Int32} (hr : ∀ i, i < 7 → r i = iI (f i)) (hi : i < 7) (hab : a ≠ b) : upd (upd r a (iI (f a - v))) b (iI (f b + v)) i = iI (moveF f a b v i) := by
  unfold moveF
  by_cases h2 : i = b
  · subst h2; rw [upd_same, if_neg (fun q => hab q.symm), if_pos rfl]
  · rw [upd_ne _ _ _ _ h2]
    by_cases h1 : i = a
    · subst h1; rw [upd_same, if_pos rfl]
    · rw [upd_ne _ _ _ _ h1, if_neg h1, if_neg h2]; exact hr i hi
theorem set_ok {f : Nat → Int} {p i : Nat} {v : Int} {r : Nat → Int32} (hr : ∀ i, i < 7 → r i = iI (f i)) (hi : i < 7) : upd r p (iI v) i = iI (setF f p v i) := by
  unfold setF
  by_cases h1 : i = p
  · subst h1; rw [upd_same, if_pos rfl]
  · rw [upd_ne _ _ _ _ h1, if_neg h1]; exact hr i hi
/-- only waters b, letters and stacks of laws have changed -/
def FrW (b : Nat) (σ τ : AS) : Prop := τ.2 = σ.2 ∧ ∀ k, (∀ i, i < 4 → k ≠ 52 + 4 * i ∧ k ≠ 53 + 4 * i) → (k < b ∨ b + 3 < k) → τ.1 k = σ.1 k
theorem FrW.rf {b : Nat} {σ : AS} : FrW b σ σ := ⟨rfl, fun _ _ _ => rfl⟩
theorem FrW.tr {b : Nat} {σ τ ρ : AS} (h : FrW b σ τ) (g : FrW b τ ρ) : FrW b σ ρ := ⟨g.1.trans h.1, fun k hk h2 => (g.2 k hk h2).trans (h.2 k hk h2)⟩
theorem FrW.of2 {b : Nat} {σ τ : AS} (h : Fr2 σ τ) : FrW b σ τ := ⟨h.1, fun k hk _ => h.2 k hk⟩
theorem FrW.sI {b k : Nat} {σ τ : AS} {f : Nat → Int32} (h : FrW b σ τ) (h1 : b ≤ k) (h2 : k ≤ b + 3) : FrW b σ (sI τ k f) := ⟨h.1, fun j hj hb => by rw [sI_ne _ _ _ _ (by omega)]; exact h.2 j hj hb⟩
theorem FrW.RO {b : Nat} {σ τ : AS} (h : FrW b σ τ) (hR : RO σ) : RO τ := by
  intro k j a e
  have := hR k j a e
  rw [show τ.2.2 = σ.2.2 by rw [h.1]]
  exact this
theorem FrW.lo {b k : Nat} {σ τ : AS} (h : FrW b σ τ) (hk : k < 52 ∨ 65 < k) (hb : k < b ∨ b + 3 < k) : τ.1 k = σ.1 k := h.2 k (fun i hi => by omega) hb
theorem FrW.twc {b : Nat} {σ τ : AS} {s : PS} (h : FrW b σ τ) (hb : 65 < b) (hS : TwK s) (hT : TwC σ s) : TwC τ s := by
  have h1 := hS.1
  have h2 := hS.2.1
  refine ⟨?_, ?_, fun j hj => ?_, fun i j hi hj => ?_, fun k j hk hj => ?_⟩
  · rw [h.lo (by omega) (by omega)]; exact hT.1
  · rw [h.lo (by omega) (by omega)]; exact hT.2.1
  · rw [h.lo (by omega) (by omega)]; exact hT.2.2.1 j hj
  · rw [h.lo (by omega) (by omega)]; exact hT.2.2.2.1 i j hi hj
  · rw [h.lo (by omega) (by omega)]; exact hT.2.2.2.2 k j hk hj
theorem FrW.lsc {b : Nat} {σ τ : AS} {Ls : LwT} {h0 : Int} (h : FrW b σ τ) (hb : 65 < b) (hLk : LsK Ls h0) (hT : LsC σ Ls h0) : LsC τ Ls h0 := by
  have h1 := hLk.1
  refine ⟨?_, ?_, fun k x hx => ?_⟩
  · rw [h.lo (by omega) (by omega)]; exact hT.1
  · rw [h.lo (by omega) (by omega)]; exact hT.2.1
  · have hk := (List.getElem?_eq_some_iff.mp hx).1
    have h3 := hT.2.2 k x hx
    refine ⟨?_, fun i y hy => ?_⟩
    · rw [h.2 _ (fun i hi => by omega) (by omega)]; exact h3.1
    · rw [h.2 _ (fun i hi => by omega) (by omega)]; exact h3.2 i y hy
theorem c114 {l : Launch} {D : va_G} {cA ad : Nat → Nat} {d : Nat} {τ : AS} {K : Option Value → AS → Prop} {b a c k : Nat} {v : Int32} {g : Nat → Int} (hR : RO τ) (hb : WB b) (ha : a < 7) (hc : c < 7) (hac : a ≠ c) (hg : ∀ i, i < 7 → τ.1 (b + 3) i = iI (g i)) (hgb : ∀ i, i < 7 → 0 ≤ g i ∧ g i ≤ 9) (hK : ∀ r, (∀ i, i < 7 → r i = iI (swimF g a c 9 i)) → K none (sI τ (b + 3) r)) : Go l D cA ad d mX2_carry 114 [.ref 48, .int (iI k), .ref b, .int v, .int (iI a), .int (iI c)] [] τ K := by
  have b1 := hgb a ha
  have b2 := hgb c hc
  refine go_aload_n dX2_carry_114 rfl ?_
  refine go_getR fX2_91 dX2_carry_115 hb.1 (hR _ _ _ hb.2.2.2.2.2.2) ?_
  refine go_iload dX2_carry_118 rfl ?_
  refine go_iald dX2_carry_120 hb.2.2.2.1 (vp_iI (by omega)) ?_
  rw [cl_n _ (by omega), hg a (by omega)]
  refine go_if_le (tgt := 158) dX2_carry_121 (by decide) (fun h121 => ?_) (fun h121 => ?_)
  · rw [iI_le0 (by omega)] at h121
    refine go_vret rfl dX2_carry_158 ?_
    have e : swimF g a c 9 = g := by unfold swimF; rw [if_neg (by omega)]
    have h9 := hK (τ.1 (b + 3)) (fun i hi => by rw [e]; exact hg i hi)
    rw [sI_self] at h9
    exact h9
  · rw [iI_le0 (by omega)] at h121
    refine go_aload_n dX2_carry_124 rfl ?_
    refine go_getR fX2_91 dX2_carry_125 hb.1 (hR _ _ _ hb.2.2.2.2.2.2) ?_
    refine go_iload dX2_carry_128 rfl ?_
    refine go_iald dX2_carry_130 hb.2.2.2.1 (vp_iI (by omega)) ?_
    rw [cl_n _ (by omega), hg c (by omega)]
    refine go_bipush (v := iI 9) dX2_carry_131 (by decide) ?_
    refine go_icmp_ge (tgt := 158) dX2_carry_133 (by decide) (fun h133 => ?_) (fun h133 => ?_)
    · rw [iI_le (by omega)] at h133
      refine go_vret rfl dX2_carry_158 ?_
      have e : swimF g a c 9 = g := by unfold swimF; rw [if_neg (by omega)]
      have h9 := hK (τ.1 (b + 3)) (fun i hi => by rw [e]; exact hg i hi)
      rw [sI_self] at h9
      exact h9
    · rw [iI_le (by omega)] at h133
      refine go_aload_n dX2_carry_136 rfl ?_
      refine go_getR fX2_91 dX2_carry_137 hb.1 (hR _ _ _ hb.2.2.2.2.2.2) ?_
      refine go_iload dX2_carry_140 rfl ?_
      refine go_dup2 dX2_carry_142 rfl rfl ?_
      refine go_iald dX2_carry_143 hb.2.2.2.1 (vp_iI (by omega)) ?_
      rw [cl_n _ (by omega), hg a (by omega)]
      refine go_iconst (v := iI 1) dX2_carry_144 (by decide) ?_
      refine go_isub dX2_carry_145 ?_
      refine go_iast dX2_carry_146 hb.2.2.2.1 (vp_iI (by omega)) ?_
      rw [cl_n _ (by omega), iI_sub]
      refine go_aload_n dX2_carry_147 rfl ?_
      refine go_getR fX2_91 dX2_carry_148 hb.1 (hR _ _ _ hb.2.2.2.2.2.2) ?_
      refine go_iload dX2_carry_151 rfl ?_
      refine go_dup2 dX2_carry_153 rfl rfl ?_
      refine go_iald dX2_carry_154 hb.2.2.2.1 (vp_iI (by omega)) ?_
      rw [cl_n _ (by omega), sI_same, upd_ne _ _ _ _ (fun q => hac q.symm), hg c (by omega)]
      refine go_iconst (v := iI 1) dX2_carry_155 (by decide) ?_
      refine go_iadd dX2_carry_156 ?_
      refine go_iast dX2_carry_157 hb.2.2.2.1 (vp_iI (by omega)) ?_
      refine go_vret rfl dX2_carry_158 ?_
      rw [cl_n _ (by omega), sI_same, sI_sI, iI_add]
      have e : swimF g a c 9 = moveF g a c 1 := by unfold swimF; rw [if_pos (by omega)]
      exact hK _ (fun i hi => by rw [e]; exact move_ok hg hi hac)
theorem c70 {l : Launch} {D : va_G} {cA ad : Nat → Nat} {d : Nat} {τ : AS} {K : Option Value → AS → Prop} {b a c k : Nat} {v : Int32} {f g : Nat → Int} (hR : RO τ) (hb : WB b) (ha : a < 7) (hc : c < 7) (hac : a ≠ c) (hf : ∀ i, i < 7 → τ.1 (b + 2) i = iI (f i)) (hfb : ∀ i, i < 7 → 0 ≤ f i ∧ f i ≤ 99) (hg : ∀ i, i < 7 → τ.1 (b + 3) i = iI (g i)) (hgb : ∀ i, i < 7 → 0 ≤ g i ∧ g i ≤ 9) (hK : ∀ r r2, (∀ i, i < 7 → r i = iI (swimF f a c 99 i)) → (∀ i, i < 7 → r2 i = iI (swimF g a c 9 i)) → K none (sI (sI τ (b + 2) r) (b + 3) r2)) : Go l D cA ad d mX2_carry 70 [.ref 48, .int (iI k), .ref b, .int v, .int (iI a), .int (iI c)] [] τ K := by
  have b1 := hfb a ha
  have b2 := hfb c hc
  refine go_aload_n dX2_carry_70 rfl ?_
  refine go_getR fX2_88 dX2_carry_71 hb.1 (hR _ _ _ hb.2.2.2.2.2.1) ?_
  refine go_iload dX2_carry_74 rfl ?_
  refine go_iald dX2_carry_76 hb.2.2.1 (vp_iI (by omega)) ?_
  rw [cl_n _ (by omega), hf a (by omega)]
  refine go_if_le (tgt := 114) dX2_carry_77 (by decide) (fun h77 => ?_) (fun h77 => ?_)
  · rw [iI_le0 (by omega)] at h77
    have e : swimF f a c 99 = f := by unfold swimF; rw [if_neg (by omega)]
    have hs := sI_self τ (b + 2)
    rw [← hs]
    refine c114 (b := b) (RO_sI hR) hb ha hc hac (fun i hi => by rw [sI_ne _ _ _ _ (by omega)]; exact hg i hi) hgb (fun r2 hr2 => hK _ r2 (fun i hi => by rw [e]; exact hf i hi) hr2)
  · rw [iI_le0 (by omega)] at h77
    refine go_aload_n dX2_carry_80 rfl ?_
    refine go_getR fX2_88 dX2_carry_81 hb.1 (hR _ _ _ hb.2.2.2.2.2.1) ?_
    refine go_iload dX2_carry_84 rfl ?_
    refine go_iald dX2_carry_86 hb.2.2.1 (vp_iI (by omega)) ?_
    rw [cl_n _ (by omega), hf c (by omega)]
    refine go_bipush (v := iI 99) dX2_carry_87 (by decide) ?_
    refine go_icmp_ge (tgt := 114) dX2_carry_89 (by decide) (fun h89 => ?_) (fun h89 => ?_)
    · rw [iI_le (by omega)] at h89
      have e : swimF f a c 99 = f := by unfold swimF; rw [if_neg (by omega)]
      have hs := sI_self τ (b + 2)
      rw [← hs]
      refine c114 (b := b) (RO_sI hR) hb ha hc hac (fun i hi => by rw [sI_ne _ _ _ _ (by omega)]; exact hg i hi) hgb (fun r2 hr2 => hK _ r2 (fun i hi => by rw [e]; exact hf i hi) hr2)
    · rw [iI_le (by omega)] at h89
      refine go_aload_n dX2_carry_92 rfl ?_
      refine go_getR fX2_88 dX2_carry_93 hb.1 (hR _ _ _ hb.2.2.2.2.2.1) ?_
      refine go_iload dX2_carry_96 rfl ?_
      refine go_dup2 dX2_carry_98 rfl rfl ?_
      refine go_iald dX2_carry_99 hb.2.2.1 (vp_iI (by omega)) ?_
      rw [cl_n _ (by omega), hf a (by omega)]
      refine go_iconst (v := iI 1) dX2_carry_100 (by decide) ?_
      refine go_isub dX2_carry_101 ?_
      refine go_iast dX2_carry_102 hb.2.2.1 (vp_iI (by omega)) ?_
      rw [cl_n _ (by omega), iI_sub]
      refine go_aload_n dX2_carry_103 rfl ?_
      refine go_getR fX2_88 dX2_carry_104 hb.1 (hR _ _ _ hb.2.2.2.2.2.1) ?_
      refine go_iload dX2_carry_107 rfl ?_
      refine go_dup2 dX2_carry_109 rfl rfl ?_
      refine go_iald dX2_carry_110 hb.2.2.1 (vp_iI (by omega)) ?_
      rw [cl_n _ (by omega), sI_same, upd_ne _ _ _ _ (fun q => hac q.symm), hf c (by omega)]
      refine go_iconst (v := iI 1) dX2_carry_111 (by decide) ?_
      refine go_iadd dX2_carry_112 ?_
      refine go_iast dX2_carry_113 hb.2.2.1 (vp_iI (by omega)) ?_
      rw [cl_n _ (by omega), sI_same, sI_sI, iI_add]
      have e : swimF f a c 99 = moveF f a c 1 := by unfold swimF; rw [if_pos (by omega)]
      refine c114 (b := b) (RO_sI hR) hb ha hc hac (fun i hi => by rw [sI_ne _ _ _ _ (by omega)]; exact hg i hi) hgb (fun r2 hr2 => hK _ r2 (fun i hi => by rw [e]; exact move_ok hf hi hac) hr2)
theorem wk7 {s : PS} {w : WT} (hS : TwK s) (hw : WK s w) (i : Nat) : 0 ≤ wa w i ∧ wa w i ≤ 99 ∧ 0 ≤ ca w i ∧ ca w i ≤ 99 ∧ 0 ≤ pk w i ∧ pk w i ≤ 9 := by
  by_cases h : i < nP s
  · have h1 := hw.1 i h
    have h2 := hS.2.2.2.1 i h
    unfold PdK at h2
    omega
  · have := hw.2.1 i (by omega)
    omega
theorem WC_sI {σ : AS} {b : Nat} {w : WT} {r1 r2 r3 : Nat → Int32} {f g h : Nat → Int} (hW : WC σ b w) (h1 : ∀ i, i < 7 → r1 i = iI (f i)) (h2 : ∀ i, i < 7 → r2 i = iI (g i)) (h3 : ∀ i, i < 7 → r3 i = iI (h i)) : WC (sI (sI (sI σ (b + 1) r1) (b + 2) r2) (b + 3) r3) b (f, g, h, w.2.2.2) := by
  refine ⟨fun i hi => ⟨?_, ?_, ?_⟩, ?_, ?_, ?_⟩
  · rw [sI_ne _ _ _ _ (by omega), sI_ne _ _ _ _ (by omega), sI_same]; exact h1 i hi
  · rw [sI_ne _ _ _ _ (by omega), sI_same]; exact h2 i hi
  · rw [sI_same]; exact h3 i hi
  · rw [sI_ne _ _ _ _ (by omega), sI_ne _ _ _ _ (by omega), sI_ne _ _ _ _ (by omega)]; exact hW.2.1
  · rw [sI_ne _ _ _ _ (by omega), sI_ne _ _ _ _ (by omega), sI_ne _ _ _ _ (by omega)]; exact hW.2.2.1
  · rw [sI_ne _ _ _ _ (by omega), sI_ne _ _ _ _ (by omega), sI_ne _ _ _ _ (by omega)]; exact hW.2.2.2
theorem WC_fr2 {σ τ : AS} {b : Nat} {w : WT} (h : Fr2 σ τ) (hb : 65 < b) (hW : WC σ b w) : WC τ b w := by
  unfold WC
  rw [h.lo (by omega), h.lo (by omega), h.lo (by omega), h.lo (by omega)]
  exact hW
theorem ct_X2_carry {l : Launch} {D : va_G} {cA ad : Nat → Nat} {d : Nat} {σ : AS} {K : Option Value → AS → Prop} {s : PS} {w : WT} {Ls : LwT} {h : Int} {b k : Nat} (hR : RO σ) (hT : TwC σ s) (hS : TwK s) (hb : WB b) (hW : WC σ b w) (hw : WK s w) (hb65 : 65 < b) (hLk : LsK Ls h) (hL : LsC σ Ls h) (hk : k < nQ s) (hK : ∀ τ, FrW b σ τ → WC τ b (carryF s (hLw Ls h) w k) → K none τ) : Call l D cA ad (d + 3) mX2_carry [.ref 48, .int (iI k), .ref b] σ K := by
  have hP7 := hS.1
  have hQ9 := hS.2.1
  have hhl := hiE_ok (w := w) hS hk
  have hfb := flF_bd (hv := hLw Ls h) hS hw hk
  have elo : iI (pp s k 0) + iI (pp s k 1) - iI (hiE s w k : Nat) = iI (loE s w k : Nat) := by rw [iI_add, iI_sub]; congr 1; omega
  refine call_go (by decide) (Nat.le_of_ble_eq_true rfl) (show Go l D cA ad (d + 3) mX2_carry 0 [.ref 48, .int (iI k), .ref b, .null, .null, .null] [] σ K from ?_)
  refine go_aload_n dX2_carry_0 rfl ?_
  refine go_iload_n dX2_carry_1 rfl ?_
  refine go_aload_n dX2_carry_2 rfl ?_
  refine go_callV (as := [_, _]) wX2_85 dX2_carry_3 rfl rfl rfl rfl (Nat.le_of_ble_eq_true rfl) (ct_X2_flowThrough hR hT hS hb hW hw hLk hL hk (fun τ fr => ?_))
  refine go_istore_n dX2_carry_6 (Nat.le_of_ble_eq_true rfl) rfl ?_
  have fw : FrW b σ τ := FrW.of2 fr
  have hR2 := fw.RO hR
  have hT2 := fw.twc hb65 hS hT
  have hW2 : WC τ b w := WC_fr2 fr hb65 hW
  refine go_iload_n dX2_carry_7 rfl ?_
  refine go_if_gt (tgt := 12) dX2_carry_8 (by decide) (fun h8 => ?_) (fun h8 => ?_)
  · rw [iI_0lt (by omega)] at h8
    refine go_aload_n dX2_carry_12 rfl ?_
    refine go_iload_n dX2_carry_13 rfl ?_
    refine go_aload_n dX2_carry_14 rfl ?_
    refine go_callV (as := [_, _]) wX2_32 dX2_carry_15 rfl rfl rfl rfl (Nat.le_of_ble_eq_true rfl) (ct_X2_higherEnd hR2 hT2 hS hb hW2 hw hk ?_)
    refine go_istore dX2_carry_18 (Nat.le_of_ble_eq_true rfl) rfl ?_
    refine go_aload_n dX2_carry_20 rfl ?_
    refine go_getR fX2_21 dX2_carry_21 rfl (hR2 _ _ _ rfl) ?_
    refine go_getR fX2_26 dX2_carry_24 rfl (hR2 _ _ _ rfl) ?_
    refine go_iload_n dX2_carry_27 rfl ?_
    refine go_aald dX2_carry_28 rfl (by decide) (vp_iI (by omega)) (by rw [cl_n _ (by omega)]; exact hR2 _ _ _ (r33 _ (by omega)).2.2.1) ?_
    refine go_iconst (v := iI 0) dX2_carry_29 (by decide) ?_
    refine go_iald dX2_carry_30 (r33 k (by omega)).2.2.2 (vp_iI (by decide)) ?_
    rw [cl_0, hT2.2.2.2.2 k 0 (by omega) (by decide)]
    refine go_aload_n dX2_carry_31 rfl ?_
    refine go_getR fX2_21 dX2_carry_32 rfl (hR2 _ _ _ rfl) ?_
    refine go_getR fX2_26 dX2_carry_35 rfl (hR2 _ _ _ rfl) ?_
    refine go_iload_n dX2_carry_38 rfl ?_
    refine go_aald dX2_carry_39 rfl (by decide) (vp_iI (by omega)) (by rw [cl_n _ (by omega)]; exact hR2 _ _ _ (r33 _ (by omega)).2.2.1) ?_
    refine go_iconst (v := iI 1) dX2_carry_40 (by decide) ?_
    refine go_iald dX2_carry_41 (r33 k (by omega)).2.2.2 (vp_iI (by decide)) ?_
    rw [cl_1, hT2.2.2.2.2 k 1 (by omega) (by decide)]
    refine go_iadd dX2_carry_42 ?_
    refine go_iload dX2_carry_43 rfl ?_
    refine go_isub dX2_carry_45 ?_
    rw [elo]
    refine go_istore dX2_carry_46 (Nat.le_of_ble_eq_true rfl) rfl ?_
    refine go_aload_n dX2_carry_48 rfl ?_
    refine go_getR fX2_39 dX2_carry_49 hb.1 (hR2 _ _ _ hb.2.2.2.2.1) ?_
    refine go_iload dX2_carry_52 rfl ?_
    refine go_dup2 dX2_carry_54 rfl rfl ?_
    refine go_iald dX2_carry_55 hb.2.1 (vp_iI (by omega)) ?_
    rw [cl_n _ (by omega), (hW2.1 (hiE s w k) (by omega)).1]
    refine go_iload_n dX2_carry_56 rfl ?_
    refine go_isub dX2_carry_57 ?_
    rw [iI_sub]
    refine go_iast dX2_carry_58 hb.2.1 (vp_iI (by omega)) ?_
    rw [cl_n _ (by omega)]
    refine go_aload_n dX2_carry_59 rfl ?_
    refine go_getR fX2_39 dX2_carry_60 hb.1 (hR2 _ _ _ hb.2.2.2.2.1) ?_
    refine go_iload dX2_carry_63 rfl ?_
    refine go_dup2 dX2_carry_65 rfl rfl ?_
    refine go_iald dX2_carry_66 hb.2.1 (vp_iI (by omega)) ?_
    rw [cl_n _ (by omega), sI_same, upd_ne _ _ _ _ (by omega), (hW2.1 (loE s w k) (by omega)).1]
    refine go_iload_n dX2_carry_67 rfl ?_
    refine go_iadd dX2_carry_68 ?_
    rw [iI_add]
    refine go_iast dX2_carry_69 hb.2.1 (vp_iI (by omega)) ?_
    rw [cl_n _ (by omega), sI_same, sI_sI]
    simp only [List.set]
    have e : carryF s (hLw Ls h) w k = (moveF (wa w) (hiE s w k) (loE s w k) (flF s (hLw Ls h) w k), swimF (ca w) (hiE s w k) (loE s w k) 99, swimF (pk w) (hiE s w k) (loE s w k) 9, w.2.2.2) := by unfold carryF; rw [if_neg (by omega)]
    rw [e] at hK
    refine c70 (b := b) (f := ca w) (g := pk w) (RO_sI hR2) hb (by omega) (by omega) hhl.2.2.1 (fun i hi => by rw [sI_ne _ _ _ _ (by omega)]; exact (hW2.1 i hi).2.1) (fun i hi => by have := wk7 hS hw i; omega) (fun i hi => by rw [sI_ne _ _ _ _ (by omega)]; exact (hW2.1 i hi).2.2) (fun i hi => by have := wk7 hS hw i; omega) (fun r r2 hr hr2 => ?_)
    exact hK _ (((fw.sI (by omega) (by omega)).sI (by omega) (by omega)).sI (by omega) (by omega)) (WC_sI hW2 (fun i hi => move_ok (fun i hi => (hW2.1 i hi).1) hi hhl.2.2.1) hr hr2)
  · rw [iI_0lt (by omega)] at h8
    refine go_vret rfl dX2_carry_11 ?_
    have e : carryF s (hLw Ls h) w k = w := by unfold carryF; rw [if_pos (by omega)]
    have h9 := hK τ fw
    rw [e] at h9
    exact h9 hW2

